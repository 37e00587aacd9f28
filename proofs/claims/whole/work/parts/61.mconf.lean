/-! The model's firstConflict. -/
theorem pre_bt : ∀ k, k < 10 → ∀ e, e < 10 → bt (shl32 (nI 2) (nI k) - nI 1) e = decide (e < k + 1) := by decide +kernel
theorem ufSel_pre (l : List Stm) (k : Nat) : ∀ n, n ≤ l.length → ufSel l (fun e => decide (e < k)) n = ufAll uf0 (l.take (min n k))
  | 0, _ => by rw [Nat.zero_min, List.take_zero]; rfl
  | n + 1, hn => by
    have hs : l[n]? = some l[n] := List.getElem?_eq_getElem (by omega)
    have ih := ufSel_pre l k n (by omega)
    show (if decide (n < k) = true then _ else _) = _
    by_cases q : n < k
    · rw [if_pos (decide_eq_true q), hs, Nat.min_eq_left (by omega), List.take_succ, hs]
      rw [Nat.min_eq_left (by omega)] at ih
      unfold ufAll
      rw [List.foldl_append]
      show ufStm _ l[n] = ufStm (List.foldl ufStm uf0 (l.take n)) l[n]
      rw [ih]; rfl
    · rw [if_neg (by rw [decide_eq_false q]; decide), Nat.min_eq_right (by omega)]
      rw [Nat.min_eq_right (by omega)] at ih
      exact ih
/-- the first equation from k on with which the ones before don't agree -/
def fcF (l : List Stm) : Nat → Nat → Int32
  | 0, _ => -9
  | f + 1, k => if k < l.length then (if (ufAll uf0 (l.take (k + 1))).2.2 = true then fcF l f (k + 1) else nI k) else -9
set_option maxRecDepth 100000 in
set_option maxHeartbeats 4000000 in
theorem ct_M_firstConflict (G : Gl) (σ : SS) (P : Prob) (hP : FP (σ.2.1 124) P) (hwf : wfP P) : CI G mX10_firstConflict [Rf G 123] σ (fun r σ1 => r = fcF P.2.1 11 0 ∧ FM [0, 21] [132, 133] σ σ1) := by
  refine Ctr.of oX10_firstConflict (Nat.le_of_ble_eq_true rfl) ?_
  intro X C R hnm hz0
  have C : Cx G X cX10_firstConflict 2 RX10 5 112 0 0 := C
  have R : Cr G X (some .int) 0 0 _ := R
  show V G X 2 0 0 0 [(0, Rf G 123)] [] (wld G σ)
  have kk_123 := sk_123
  have kk_124 := sk_124
  have kk_131 := sk_131
  have kk_132 := sk_132
  have kk_133 := sk_133
  have l10_ := hwf.2.1
  have loop : ∀ (m k : Nat) (σ1 : SS), P.2.1.length < k + m → k ≤ P.2.1.length → fcF P.2.1 11 0 = fcF P.2.1 m k → FM [0, 21] [132, 133] σ σ1 → V G X 2 0 0 7 [(0, Rf G 123), (1, .int (nI k))] [] (wld G σ1) := by
    intro m
    induction m with
    | zero =>
      intro k σ1 hm hk he hF1
      exact absurd hm (by omega)
    | succ m ih =>
      intro k σ1 hm hk he hF1
      refine V.iload_n C 1 rfl rfl dX10_firstConflict_7 ?_
      refine V.aload_n C 0 rfl rfl dX10_firstConflict_8 ?_
      refine V.getR C fX10_7 dX10_firstConflict_9 (by assumption) rfl ?_
      refine V.bipush C (nI 8) b_8 dX10_firstConflict_12 ?_
      refine V.ialdN C dX10_firstConflict_14 (by assumption) (by omega) ?_
      rw [hF1.a (by decide), hP.2.1]
      refine V.icmp_ge C 38 dX10_firstConflict_15 rfl (fun hb_15 => ?_) (fun hb_15 => ?_)
      · have zk_ : ¬ k < P.2.1.length := fun q => absurd ((nI_leI (by omega) (by omega)).mp hb_15) (by omega)
        refine V.bipush C ((-9)) b_m9 dX10_firstConflict_38 ?_
        exact V.iretS C R dX10_firstConflict_40 ⟨by rw [he]; show _ = (if k < P.2.1.length then _ else _); rw [if_neg zk_], hF1⟩
      · have zk_ : k < P.2.1.length := Nat.lt_of_not_le (fun q => hb_15 (nI_le q (by omega)))
        refine V.aload_n C 0 rfl rfl dX10_firstConflict_18 ?_
        refine V.iconst C (nI 2) c_2 dX10_firstConflict_19 ?_
        refine V.iload_n C 1 rfl rfl dX10_firstConflict_20 ?_
        refine V.ishl C dX10_firstConflict_21 ?_
        refine V.iconst C (nI 1) c_1 dX10_firstConflict_22 ?_
        refine V.isub C dX10_firstConflict_23 ?_
        refine V.cVi C lX10_218 oX10_solve dX10_firstConflict_24 (ct_M_solve G σ1 P _ (fun e => decide (e < k + 1)) (by rw [hF1.a (by decide)]; exact hP) hwf (fun e he => pre_bt k (by omega) e he)) (by assumption) rfl rfl (Nat.le_of_ble_eq_true rfl) ⟨Nat.le_of_ble_eq_true rfl, Nat.le_of_ble_eq_true rfl⟩ ⟨Nat.le_of_ble_eq_true rfl, Nat.le_of_ble_eq_true rfl⟩ (fun rr_24 σ24 pp_24 => ?_)
        have es_ := ufSel_pre P.2.1 (k + 1) P.2.1.length (Nat.le_refl _)
        rw [Nat.min_eq_right (by omega)] at es_
        rw [es_] at pp_24
        rw [pp_24.1]
        refine V.if_ne C 32 dX10_firstConflict_27 rfl (fun hb_27 => ?_) (fun hb_27 => ?_)
        · have zc_ := bI_ne0 hb_27
          refine V.iinc C (nI (k + 1)) dX10_firstConflict_32 rfl (nI_1 k) (by decide) ?_
          refine V.goto C 7 dX10_firstConflict_35 rfl ?_
          refine V.lvs (lv' := [(0, Rf G 123), (1, .int (nI (k + 1)))]) rfl ?_
          refine ih (k + 1) σ24 (by omega) (by omega) ?_ (hF1.trans (pp_24.2.2.mono (by decide) (by decide)))
          rw [he]
          show (if k < P.2.1.length then _ else _) = _
          rw [if_pos zk_, if_pos zc_]
        · have zc_ := bI_eq0 hb_27
          refine V.iload_n C 1 rfl rfl dX10_firstConflict_30 ?_
          exact V.iretS C R dX10_firstConflict_31 ⟨by rw [he]; show _ = (if k < P.2.1.length then _ else _); rw [if_pos zk_, if_neg (by rw [zc_]; decide)], hF1.trans (pp_24.2.2.mono (by decide) (by decide))⟩
  refine V.aload_n C 0 rfl rfl dX10_firstConflict_0 ?_
  refine V.iconst C (nI 0) c_0 dX10_firstConflict_1 ?_
  refine V.putI C fX10_47 dX10_firstConflict_2 (by assumption) rfl ?_
  refine V.iconst C (nI 0) c_0 dX10_firstConflict_5 ?_
  refine V.istore_n C 1 dX10_firstConflict_6 rfl (by decide) ?_
  refine V.lvs (lv' := [(0, Rf G 123), (1, .int (nI 0))]) rfl ?_
  exact loop 11 0 _ (by omega) (by omega) rfl ((FM.refl _ _ _).sF _ (by decide))
