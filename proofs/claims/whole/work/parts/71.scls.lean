/-! The solver: classCount, isConsistent, firstConflict, conflictSet, fixedBit, compareBits, freeBits. -/
theorem stP_next {f : Nat → Bool} (h0 : f 0 = false) {j p : Nat} (h : stP f j p) : cntN f (p + 1) = j := by
  rw [cntN_s]
  rcases h with ⟨a, b⟩ | ⟨a, b, c⟩
  · rw [a, b, h0]; rfl
  · rw [b]; simpa using c
theorem cnt_gap {f : Nat → Bool} {a c : Nat} (e : cntN f c = cntN f a) {x : Nat} (h1 : a ≤ x) (h2 : x < c) : f x = false := by
  cases q : f x with
  | false => rfl
  | true =>
    have m1 := cntN_mono f h1
    have m2 := cntN_mono f (show x + 1 ≤ c from h2)
    rw [cntN_s, q] at m2
    simp at m2
    omega
theorem cl_gap {P : Prob} {K : Nat → Bool} {v a : Nat} (h0 : 0 < a) : ∀ c, a ≤ c → cntN (cutF K v) c = cntN (cutF K v) a → cntN (clS P K v) c = cntN (clS P K v) a
  | 0, h, _ => by omega
  | c + 1, h, e => by
    by_cases q : a = c + 1
    · rw [q]
    · have f1 : cutF K v c = false := cnt_gap e (show a ≤ c by omega) (by omega)
      rw [cntN_s, f1] at e
      have c1 : clS P K v c = false := by
        have f2 : K (16 * v + c) = false := f1
        unfold clS
        rw [f2, decide_eq_false (show ¬ c = 0 by omega)]; simp
      rw [cntN_s, c1, cl_gap h0 c (by omega) (by simpa using e)]; rfl
theorem cl_zero {P : Prob} {K : Nat → Bool} {v : Nat} (h : P.1 v = 0) : ∀ c, cntN (clS P K v) c = 0
  | 0 => rfl
  | c + 1 => by
    rw [cntN_s, cl_zero h c]
    unfold clS
    rw [decide_eq_false (show ¬ c < P.1 v by omega)]; rfl
theorem stP_lt {f : Nat → Bool} (h0 : f 0 = false) {j p q : Nat} (h : stP f j p) (h' : stP f (j + 1) q) : p + 1 ≤ q ∧ cntN f q = cntN f (p + 1) := by
  have e1 := stP_next h0 h
  have e2 := stP_next h0 h'
  refine ⟨Nat.lt_of_not_le (fun w => ?_), ?_⟩
  · have := cntN_mono f (show q + 1 ≤ p + 1 by omega)
    omega
  · rcases h' with ⟨a, b⟩ | ⟨a, b, c⟩
    · omega
    · omega
theorem ufFix_ag {u : UF} {r v : Nat} (h : (ufFix u r v).2.2 = true) : u.2.2 = true := by
  unfold ufFix at h
  split at h
  · exact h
  · rw [Bool.and_eq_true] at h; exact h.1
theorem ufJoin_ag {u : UF} {a b : Nat} (h : (ufJoin u a b).2.2 = true) : u.2.2 = true := by
  unfold ufJoin at h
  split at h
  · exact h
  · unfold ufFixO at h
    split at h
    · exact h
    · exact ufFix_ag (u := ufMove u (min a b) (max a b)) h
theorem ufEq_ag {u : UF} {a b : Nat} (h : (ufEq u a b).2.2 = true) : u.2.2 = true := by
  unfold ufEq at h
  split at h
  · split at h
    · exact ufJoin_ag h
    · exact ufFix_ag h
  · split at h
    · exact ufFix_ag h
    · rw [Bool.and_eq_true] at h; exact h.1
theorem ufTerms_ag {u : UF} {L R : Nat → Nat} : ∀ {n : Nat}, (ufTerms u L R n).2.2 = true → u.2.2 = true
  | 0, h => h
  | n + 1, h => ufTerms_ag (n := n) (ufEq_ag h)
theorem ufAll_ag : ∀ {l : List Stm} {u : UF}, (ufAll u l).2.2 = true → u.2.2 = true
  | [], _, h => h
  | s :: l, u, h => ufTerms_ag (ufAll_ag (l := l) (u := ufStm u s) h)
theorem ufAll_pre {l : List Stm} (h : (ufAll uf0 l).2.2 = true) (k : Nat) : (ufAll uf0 (l.take k)).2.2 = true := by
  refine ufAll_ag (l := l.drop k) ?_
  have : ufAll (ufAll uf0 (l.take k)) (l.drop k) = ufAll uf0 l := by
    unfold ufAll
    rw [← List.foldl_append, List.take_append_drop]
  rw [this]; exact h
theorem fcF_ok {l : List Stm} (h : (ufAll uf0 l).2.2 = true) : ∀ f k, fcF l f k = -9
  | 0, _ => rfl
  | f + 1, k => by
    show (if k < l.length then (if (ufAll uf0 (l.take (k + 1))).2.2 = true then fcF l f (k + 1) else nI k) else -9) = -9
    rw [ufAll_pre h (k + 1), if_pos rfl, fcF_ok h f (k + 1)]
    split <;> rfl
theorem cdN {x : Nat} (hx : x < 128) : cn (16 + x) = x ∧ isV (16 + x) = true ∧ vb (16 + x) = x ∧ okB (16 + x) := by
  have h1 : (16 + x) % 256 = 16 + x := by omega
  have h2 : isV (16 + x) = true := by unfold isV; rw [h1]; exact decide_eq_true (by omega)
  have h3 : vb (16 + x) = x := by unfold vb; omega
  refine ⟨by unfold cn; rw [if_pos h2]; exact h3, h2, h3, ⟨by omega, Or.inr (by omega)⟩⟩
set_option maxRecDepth 100000 in
set_option maxHeartbeats 4000000 in
theorem ct_S_classCount (G : Gl) (σ : SS) (P : Prob) (hC : CInv σ P) : CI G mX9_classCount [Rf G 0] σ (fun r σ1 => ∃ K, Least P K ∧ r = nI (clN P K 8) ∧ CInv σ1 P ∧ FQ 113 σ σ1) := by
  refine Ctr.of oX9_classCount (Nat.le_of_ble_eq_true rfl) ?_
  intro X C R hnm hz0
  have C : Cx G X cX9_classCount 6 RX9 3 62 0 0 := C
  have R : Cr G X (some .int) 0 0 _ := R
  show V G X 6 0 0 0 [(0, Rf G 0)] [] (wld G σ)
  have kk_0 := sk_0
  have kk_1 := sk_1
  have kk_9 := sk_9
  have kk_11 := sk_11
  have kk_15 := sk_15
  have kk_19 := sk_19
  have kk_29 := sk_29
  have kk_91 := sk_91
  have kk_101 := sk_101
  have kk_111 := sk_111
  have kk_113 := sk_113
  have kk_116 := sk_116
  have kk_119 := sk_119
  obtain ⟨K, hK, hL⟩ := hC.2.2.1
  have hW := hC.2.1
  have loop : ∀ (m v n : Nat) (σ1 : SS), 8 < v + m → v ≤ 8 → n = clN P K v → CInv σ1 P → RK σ1 K → Fr 113 116 σ σ1 → V G X 6 0 0 4 [(0, Rf G 0), (1, .int (nI n)), (2, .int (nI v))] [] (wld G σ1) := by
    intro m
    induction m with
    | zero =>
      intro v n σ1 hm hv8 hn hC1 hK1 hF1
      exact absurd hm (by omega)
    | succ m ih =>
      intro v n σ1 hm hv8 hn hC1 hK1 hF1
      refine V.iload_n C 2 rfl rfl dX9_classCount_4 ?_
      refine V.bipush C (nI 8) b_8 dX9_classCount_5 ?_
      refine V.icmp_ge C 70 dX9_classCount_7 rfl (fun hb_7 => ?_) (fun hb_7 => ?_)
      · have zv_ : v = 8 := by have := (nI_leI (by decide) (by omega)).mp hb_7; omega
        refine V.iload_n C 1 rfl rfl dX9_classCount_70 ?_
        exact V.iretS C R dX9_classCount_71 ⟨K, hL, by rw [hn, zv_], hC1, hF1.q (by omega) (by omega) (by omega)⟩
      · have hv : v < 8 := Nat.lt_of_not_le (fun q => hb_7 (nI_le q (by omega)))
        have s17_ := slN_le (P := P) (K := K) (v := v)
        have n16_ := clN_le P K v
        have c0_ := cutF_0 hL.2 hW v
        have ihV := ih
        have loopJ : ∀ (m j n pv : Nat) (σ1 : SS), slN P K v < j + m → j ≤ slN P K v → (¬ j = 0 → stP (cutF K v) (j - 1) pv) → n = clN P K v + cntN (clS P K v) (if j = 0 then 0 else pv + 1) → CInv σ1 P → RK σ1 K → Fr 113 116 σ σ1 → V G X 6 0 0 19 [(0, Rf G 0), (1, .int (nI n)), (2, .int (nI v)), (3, .int (nI (slN P K v))), (4, .int (nI j))] [] (wld G σ1) := by
          intro m
          induction m with
          | zero =>
            intro j n pv σ1 hm hj hpv hn hC1 hK1 hF1
            exact absurd hm (by omega)
          | succ m ih =>
            intro j n pv σ1 hm hj hpv hn hC1 hK1 hF1
            refine V.iload C rfl dX9_classCount_19 ?_
            refine V.iload_n C 3 rfl rfl dX9_classCount_21 ?_
            refine V.icmp_ge C 64 dX9_classCount_22 rfl (fun hb_22 => ?_) (fun hb_22 => ?_)
            · have zj_ : j = slN P K v := by have := (nI_leI (by omega) (by omega)).mp hb_22; omega
              refine V.iinc C (nI (v + 1)) dX9_classCount_64 rfl (nI_1 v) (by decide) ?_
              refine V.goto C 4 dX9_classCount_67 rfl ?_
              have wt_ : cntN (clS P K v) 16 = cntN (clS P K v) (if j = 0 then 0 else pv + 1) := by
                by_cases qj_ : j = 0
                · rw [if_pos qj_, cl_zero (by
                    unfold slN at zj_
                    split at zj_
                    · rename_i q; exact q
                    · omega)]
                  rfl
                · rw [if_neg qj_]
                  have pj_ := hpv qj_
                  have nx_ := stP_next c0_ pj_
                  have ec_ : slN P K v = cntN (cutF K v) 16 + 1 := by
                    unfold slN at zj_ ⊢
                    split at zj_
                    · omega
                    · rename_i q; rw [if_neg q]
                  have p16_ := stP_16 pj_ (by omega)
                  exact cl_gap (by omega) 16 (by omega) (by omega)
              refine V.lvs (lv' := [(0, Rf G 0), (1, .int (nI n)), (2, .int (nI (v + 1)))]) rfl ?_
              exact ihV (v + 1) n σ1 (by omega) (by omega) (by rw [hn, ← wt_]; rfl) hC1 hK1 hF1
            · have zj_ : j < slN P K v := Nat.lt_of_not_le (fun q => hb_22 (nI_le q (by omega)))
              have ej_ : P.1 v ≠ 0 ∧ slN P K v = cntN (cutF K v) 16 + 1 := by
                unfold slN at zj_ ⊢
                split at zj_
                · omega
                · rename_i q; rw [if_neg q]; exact ⟨q, rfl⟩
              refine V.iload_n C 2 rfl rfl dX9_classCount_25 ?_
              refine V.aload_n C 0 rfl rfl dX9_classCount_26 ?_
              refine V.getR C fX9_51 dX9_classCount_27 (by assumption) rfl ?_
              refine V.iload_n C 2 rfl rfl dX9_classCount_30 ?_
              refine V.iload C rfl dX9_classCount_31 ?_
              refine V.cVi C lX9_146 oX1_startOf dX9_classCount_33 (ct_Cu_startOf G σ1 v j K hK1 hv c0_ (by omega)) (by assumption) rfl rfl (Nat.le_of_ble_eq_true rfl) ⟨Nat.le_of_ble_eq_true rfl, Nat.le_of_ble_eq_true rfl⟩ ⟨Nat.le_of_ble_eq_true rfl, Nat.le_of_ble_eq_true rfl⟩ (fun rr_33 σ33 pp_33 => ?_)
              obtain ⟨p_, ee_33, st_, ff_33⟩ := pp_33
              rw [ee_33, ff_33]
              have p16_ := stP_16 st_ (by omega)
              refine V.cSi C lX9_150 oX9_nodeOf dX9_classCount_36 (ct_nodeOf G σ1 v p_) rfl rfl (Nat.le_of_ble_eq_true rfl) ⟨Nat.le_of_ble_eq_true rfl, Nat.le_of_ble_eq_true rfl⟩ ⟨Nat.le_of_ble_eq_true rfl, Nat.le_of_ble_eq_true rfl⟩ (fun rr_36 σ36 pp_36 => ?_)
              obtain ⟨ee_36, ff_36⟩ := pp_36
              rw [ee_36, ff_36]
              refine V.istore C dX9_classCount_39 (by decide) ?_
              refine V.aload_n C 0 rfl rfl dX9_classCount_41 ?_
              refine V.getR C fX9_58 dX9_classCount_42 (by assumption) rfl ?_
              refine V.iload C rfl dX9_classCount_45 ?_
              refine V.cVi C lX9_153 oX0_rootOf dX9_classCount_47 (ct_Cl_rootOf G σ1 113 (v * 16 + p_) _ ClA_113 hC1.2.2.2.1 (by omega)) (by assumption) rfl rfl (Nat.le_of_ble_eq_true rfl) ⟨Nat.le_of_ble_eq_true rfl, Nat.le_of_ble_eq_true rfl⟩ ⟨Nat.le_of_ble_eq_true rfl, Nat.le_of_ble_eq_true rfl⟩ (fun rr_47 σ47 pp_47 => ?_)
              obtain ⟨ee_47, u47_, f47_⟩ := pp_47
              rw [ee_47]
              have rb_ := (hC1.2.2.2.1.bits (x := v * 16 + p_) (by omega)).1
              have C47_ := hC1.cls u47_ (f47_.mono (by omega) (by omega))
              have K47_ := hK1.fr f47_ (by omega)
              have F47_ := hF1.trans f47_
              refine V.iload C rfl dX9_classCount_50 ?_
              refine V.icmp_ne C 58 dX9_classCount_52 rfl (fun hb_52 => ?_) (fun hb_52 => ?_)
              · have zr_ : ¬ (ufAll uf0 P.2.1).1 (v * 16 + p_) = v * 16 + p_ := fun q => hb_52 (by rw [q])
                refine V.iinc C (nI (j + 1)) dX9_classCount_58 rfl (nI_1 j) (by decide) ?_
                refine V.goto C 19 dX9_classCount_61 rfl ?_
                have pn_ : cntN (clS P K v) p_ = cntN (clS P K v) (if j = 0 then 0 else pv + 1) := by
                  by_cases qj_ : j = 0
                  · rw [if_pos qj_]
                    rcases st_ with ⟨_, sp_⟩ | ⟨sp_, _⟩
                    · rw [sp_]
                    · omega
                  · rw [if_neg qj_]
                    have pj_ := hpv qj_
                    rw [show j = j - 1 + 1 by omega] at st_
                    have sl_ := stP_lt c0_ pj_ st_
                    exact cl_gap (by omega) p_ sl_.1 sl_.2
                have cp_ : clS P K v p_ = false := by
                  have b1_ : (decide (p_ = 0) || K (16 * v + p_)) = true := by
                    rcases st_ with ⟨_, sp_⟩ | ⟨_, sp_, _⟩
                    · rw [decide_eq_true sp_]; rfl
                    · rw [show K (16 * v + p_) = true from sp_, Bool.or_true]
                  have b2_ : p_ < P.1 v := by
                    rcases st_ with ⟨_, sp_⟩ | ⟨_, sp_, _⟩
                    · omega
                    · exact (cutF_in hL.2 hW p16_ sp_).2.2
                  unfold clS
                  rw [b1_, decide_eq_true b2_, Nat.mul_comm 16 v, decide_eq_false zr_]; rfl
                refine V.lvs (lv' := [(0, Rf G 0), (1, .int (nI n)), (2, .int (nI v)), (3, .int (nI (slN P K v))), (4, .int (nI (j + 1)))]) rfl ?_
                exact ih (j + 1) n p_ σ47 (by omega) (by omega) (fun _ => by rw [Nat.add_sub_cancel]; exact st_) (by rw [if_neg (by omega), cntN_s, pn_, cp_, hn]; simp <;> omega) C47_ K47_ F47_
              · have zr_ : (ufAll uf0 P.2.1).1 (v * 16 + p_) = v * 16 + p_ := nI_pe (by omega) (by omega) hb_52
                refine V.iinc C (nI (n + 1)) dX9_classCount_55 rfl (nI_1 n) (by decide) ?_
                refine V.iinc C (nI (j + 1)) dX9_classCount_58 rfl (nI_1 j) (by decide) ?_
                refine V.goto C 19 dX9_classCount_61 rfl ?_
                have pn_ : cntN (clS P K v) p_ = cntN (clS P K v) (if j = 0 then 0 else pv + 1) := by
                  by_cases qj_ : j = 0
                  · rw [if_pos qj_]
                    rcases st_ with ⟨_, sp_⟩ | ⟨sp_, _⟩
                    · rw [sp_]
                    · omega
                  · rw [if_neg qj_]
                    have pj_ := hpv qj_
                    rw [show j = j - 1 + 1 by omega] at st_
                    have sl_ := stP_lt c0_ pj_ st_
                    exact cl_gap (by omega) p_ sl_.1 sl_.2
                have cp_ : clS P K v p_ = true := by
                  have b1_ : (decide (p_ = 0) || K (16 * v + p_)) = true := by
                    rcases st_ with ⟨_, sp_⟩ | ⟨_, sp_, _⟩
                    · rw [decide_eq_true sp_]; rfl
                    · rw [show K (16 * v + p_) = true from sp_, Bool.or_true]
                  have b2_ : p_ < P.1 v := by
                    rcases st_ with ⟨_, sp_⟩ | ⟨_, sp_, _⟩
                    · omega
                    · exact (cutF_in hL.2 hW p16_ sp_).2.2
                  unfold clS
                  rw [b1_, decide_eq_true b2_, Nat.mul_comm 16 v, decide_eq_true zr_]; rfl
                refine V.lvs (lv' := [(0, Rf G 0), (1, .int (nI (n + 1))), (2, .int (nI v)), (3, .int (nI (slN P K v))), (4, .int (nI (j + 1)))]) rfl ?_
                exact ih (j + 1) (n + 1) p_ σ47 (by omega) (by omega) (fun _ => by rw [Nat.add_sub_cancel]; exact st_) (by rw [if_neg (by omega), cntN_s, pn_, cp_, hn]; simp <;> omega) C47_ K47_ F47_
        refine V.aload_n C 0 rfl rfl dX9_classCount_10 ?_
        refine V.iload_n C 2 rfl rfl dX9_classCount_11 ?_
        refine V.cVi C lX9_139 oX9_slicesOf dX9_classCount_12 (ct_S_slicesOf G σ1 P K v hC1.1 hW hK1 hv) (by assumption) rfl rfl (Nat.le_of_ble_eq_true rfl) ⟨Nat.le_of_ble_eq_true rfl, Nat.le_of_ble_eq_true rfl⟩ ⟨Nat.le_of_ble_eq_true rfl, Nat.le_of_ble_eq_true rfl⟩ (fun rr_12 σ12 pp_12 => ?_)
        obtain ⟨ee_12, ff_12⟩ := pp_12
        rw [ee_12, ff_12]
        refine V.istore_n C 3 dX9_classCount_15 rfl (by decide) ?_
        refine V.iconst C (nI 0) c_0 dX9_classCount_16 ?_
        refine V.istore C dX9_classCount_17 (by decide) ?_
        refine V.lvs (lv' := [(0, Rf G 0), (1, .int (nI n)), (2, .int (nI v)), (3, .int (nI (slN P K v))), (4, .int (nI 0))]) rfl ?_
        exact loopJ (slN P K v + 1) 0 n 0 σ1 (by omega) (by omega) (fun q => absurd rfl q) (by rw [if_pos rfl]; exact hn) hC1 hK1 hF1
  refine V.iconst C (nI 0) c_0 dX9_classCount_0 ?_
  refine V.istore_n C 1 dX9_classCount_1 rfl (by decide) ?_
  refine V.iconst C (nI 0) c_0 dX9_classCount_2 ?_
  refine V.istore_n C 2 dX9_classCount_3 rfl (by decide) ?_
  refine V.lvs (lv' := [(0, Rf G 0), (1, .int (nI 0)), (2, .int (nI 0))]) rfl ?_
  exact loop 9 0 0 σ (by omega) (by omega) rfl hC hK (Fr.refl _ _ _)
set_option maxRecDepth 100000 in
set_option maxHeartbeats 4000000 in
theorem ct_S_isConsistent (G : Gl) (σ : SS) (P : Prob) (hC : CInv σ P) : CI G mX9_isConsistent [Rf G 0] σ (fun r σ1 => r = icR P ∧ σ1 = σ) := by
  refine Ctr.of oX9_isConsistent (Nat.le_of_ble_eq_true rfl) ?_
  intro X C R hnm hz0
  have C : Cx G X cX9_isConsistent 1 RX9 1 20 0 0 := C
  have R : Cr G X (some .int) 0 0 _ := R
  show V G X 1 0 0 0 [(0, Rf G 0)] [] (wld G σ)
  have kk_0 := sk_0
  have kk_1 := sk_1
  have kk_9 := sk_9
  have kk_11 := sk_11
  have kk_15 := sk_15
  have kk_19 := sk_19
  have kk_29 := sk_29
  have kk_91 := sk_91
  have kk_101 := sk_101
  have kk_111 := sk_111
  have kk_113 := sk_113
  have kk_116 := sk_116
  have kk_119 := sk_119
  refine V.aload_n C 0 rfl rfl dX9_isConsistent_0 ?_
  refine V.getR C fX9_58 dX9_isConsistent_1 (by assumption) rfl ?_
  refine V.cVi C lX9_165 oX0_agree dX9_isConsistent_4 (ct_Cl_agree G σ 113 _ ClA_113 hC.2.2.2.1) (by assumption) rfl rfl (Nat.le_of_ble_eq_true rfl) ⟨Nat.le_of_ble_eq_true rfl, Nat.le_of_ble_eq_true rfl⟩ ⟨Nat.le_of_ble_eq_true rfl, Nat.le_of_ble_eq_true rfl⟩ (fun rr_4 σ4 pp_4 => ?_)
  obtain ⟨ee_4, ff_4⟩ := pp_4
  rw [ee_4, ff_4]
  refine V.if_eq C 14 dX9_isConsistent_7 rfl (fun hb_7 => ?_) (fun hb_7 => ?_)
  · refine V.iconst C (nI 0) c_0 dX9_isConsistent_14 ?_
    exact V.iretS C R dX9_isConsistent_15 ⟨by unfold icR; rw [bI_eq0 hb_7]; rfl, rfl⟩
  · refine V.iconst C (nI 1) c_1 dX9_isConsistent_10 ?_
    refine V.goto C 15 dX9_isConsistent_11 rfl ?_
    exact V.iretS C R dX9_isConsistent_15 ⟨by unfold icR; rw [bI_ne0 hb_7]; rfl, rfl⟩
set_option maxRecDepth 100000 in
set_option maxHeartbeats 4000000 in
theorem ct_S_firstConflict (G : Gl) (σ : SS) (P : Prob) (hC : CInv σ P) : CI G mX9_firstConflict [Rf G 0] σ (fun r σ1 => r = fcF P.2.1 11 0 ∧ CInv σ1 P ∧ FQ 113 σ σ1) := by
  refine Ctr.of oX9_firstConflict (Nat.le_of_ble_eq_true rfl) ?_
  intro X C R hnm hz0
  have C : Cx G X cX9_firstConflict 2 RX9 4 91 0 0 := C
  have R : Cr G X (some .int) 0 0 _ := R
  show V G X 2 0 0 0 [(0, Rf G 0)] [] (wld G σ)
  have kk_0 := sk_0
  have kk_1 := sk_1
  have kk_9 := sk_9
  have kk_11 := sk_11
  have kk_15 := sk_15
  have kk_19 := sk_19
  have kk_29 := sk_29
  have kk_91 := sk_91
  have kk_101 := sk_101
  have kk_111 := sk_111
  have kk_113 := sk_113
  have kk_116 := sk_116
  have kk_119 := sk_119
  have hW := hC.2.1
  have l10_ := hW.2.1
  have loop : ∀ (m e : Nat) (σ1 : SS), P.2.1.length < e + m → e ≤ P.2.1.length → fcF P.2.1 11 0 = fcF P.2.1 m e → RCu σ1 116 (ufAll uf0 (P.2.1.take e)) → CInv σ1 P → Fr 116 119 σ σ1 → V G X 2 0 0 22 [(0, Rf G 0), (1, .int (nI e))] [] (wld G σ1) := by
    intro m
    induction m with
    | zero =>
      intro e σ1 hm hk he hU1 hC1 hF1
      exact absurd hm (by omega)
    | succ m ih =>
      intro e σ1 hm hk he hU1 hC1 hF1
      refine V.iload_n C 1 rfl rfl dX9_firstConflict_22 ?_
      refine V.aload_n C 0 rfl rfl dX9_firstConflict_23 ?_
      refine V.getR C fX9_28 dX9_firstConflict_24 (by assumption) rfl ?_
      refine V.getR C fX9_112 dX9_firstConflict_27 (by assumption) rfl ?_
      refine V.cVi C lX9_126 oX6_count dX9_firstConflict_30 (ct_St_count G σ1 11 10 SA_11) (by assumption) rfl rfl (Nat.le_of_ble_eq_true rfl) ⟨Nat.le_of_ble_eq_true rfl, Nat.le_of_ble_eq_true rfl⟩ ⟨Nat.le_of_ble_eq_true rfl, Nat.le_of_ble_eq_true rfl⟩ (fun rr_30 σ30 pp_30 => ?_)
      obtain ⟨ee_30, ff_30⟩ := pp_30
      rw [ee_30, ff_30]
      rw [hC1.eq]
      refine V.icmp_ge C 69 dX9_firstConflict_33 rfl (fun hb_33 => ?_) (fun hb_33 => ?_)
      · have zk_ : ¬ e < P.2.1.length := fun q => absurd ((nI_leI (by omega) (by omega)).mp hb_33) (by omega)
        refine V.bipush C ((-9)) b_m9 dX9_firstConflict_69 ?_
        exact V.iretS C R dX9_firstConflict_71 ⟨by rw [he]; show _ = (if e < P.2.1.length then _ else _); rw [if_neg zk_], hC1, hF1.q (by omega) (by omega) (by omega)⟩
      · have zk_ : e < P.2.1.length := Nat.lt_of_not_le (fun q => hb_33 (nI_le q (by omega)))
        obtain ⟨s, hs_⟩ := get_some zk_
        refine V.aload_n C 0 rfl rfl dX9_firstConflict_36 ?_
        refine V.getR C fX9_62 dX9_firstConflict_37 (by assumption) rfl ?_
        refine V.aload_n C 0 rfl rfl dX9_firstConflict_40 ?_
        refine V.getR C fX9_28 dX9_firstConflict_41 (by assumption) rfl ?_
        refine V.getR C fX9_112 dX9_firstConflict_44 (by assumption) rfl ?_
        refine V.iload_n C 1 rfl rfl dX9_firstConflict_47 ?_
        refine V.cVv C lX9_169 oX0_equate dX9_firstConflict_48 (ct_Cl_equate G σ1 116 11 10 e (ufAll uf0 (P.2.1.take e)) P.2.1 s ClA_116 SA_11 hU1 hC1.1.2.1 hs_ (hW.okL1 e s hs_) (by omega)) (by assumption) rfl rfl (Nat.le_of_ble_eq_true rfl) ⟨Nat.le_of_ble_eq_true rfl, Nat.le_of_ble_eq_true rfl⟩ ⟨Nat.le_of_ble_eq_true rfl, Nat.le_of_ble_eq_true rfl⟩ (fun σ48 pp_48 => ?_)
        have u48_ : RCu σ48 116 (ufAll uf0 (P.2.1.take (e + 1))) := by rw [ufAll_take hs_]; exact pp_48.1
        refine V.aload_n C 0 rfl rfl dX9_firstConflict_51 ?_
        refine V.getR C fX9_62 dX9_firstConflict_52 (by assumption) rfl ?_
        refine V.cVi C lX9_165 oX0_agree dX9_firstConflict_55 (ct_Cl_agree G σ48 116 _ ClA_116 u48_) (by assumption) rfl rfl (Nat.le_of_ble_eq_true rfl) ⟨Nat.le_of_ble_eq_true rfl, Nat.le_of_ble_eq_true rfl⟩ ⟨Nat.le_of_ble_eq_true rfl, Nat.le_of_ble_eq_true rfl⟩ (fun rr_55 σ55 pp_55 => ?_)
        obtain ⟨ee_55, ff_55⟩ := pp_55
        rw [ee_55, ff_55]
        refine V.if_ne C 63 dX9_firstConflict_58 rfl (fun hb_58 => ?_) (fun hb_58 => ?_)
        · have zc_ := bI_ne0 hb_58
          refine V.iinc C (nI (e + 1)) dX9_firstConflict_63 rfl (nI_1 e) (by decide) ?_
          refine V.goto C 22 dX9_firstConflict_66 rfl ?_
          refine V.lvs (lv' := [(0, Rf G 0), (1, .int (nI (e + 1)))]) rfl ?_
          refine ih (e + 1) σ48 (by omega) (by omega) ?_ u48_ (hC1.tri pp_48.2) (hF1.trans pp_48.2)
          rw [he]
          show (if e < P.2.1.length then _ else _) = _
          rw [if_pos zk_, if_pos zc_]
        · have zc_ := bI_eq0 hb_58
          refine V.iload_n C 1 rfl rfl dX9_firstConflict_61 ?_
          exact V.iretS C R dX9_firstConflict_62 ⟨by rw [he]; show _ = (if e < P.2.1.length then _ else _); rw [if_pos zk_, if_neg (by rw [zc_]; decide)], hC1.tri pp_48.2, (hF1.trans pp_48.2).q (by omega) (by omega) (by omega)⟩
  refine V.aload_n C 0 rfl rfl dX9_firstConflict_0 ?_
  refine V.getR C fX9_58 dX9_firstConflict_1 (by assumption) rfl ?_
  refine V.cVi C lX9_165 oX0_agree dX9_firstConflict_4 (ct_Cl_agree G σ 113 _ ClA_113 hC.2.2.2.1) (by assumption) rfl rfl (Nat.le_of_ble_eq_true rfl) ⟨Nat.le_of_ble_eq_true rfl, Nat.le_of_ble_eq_true rfl⟩ ⟨Nat.le_of_ble_eq_true rfl, Nat.le_of_ble_eq_true rfl⟩ (fun rr_4 σ4 pp_4 => ?_)
  obtain ⟨ee_4, ff_4⟩ := pp_4
  rw [ee_4, ff_4]
  refine V.if_eq C 13 dX9_firstConflict_7 rfl (fun hb_7 => ?_) (fun hb_7 => ?_)
  · have z_ := bI_eq0 hb_7
    refine V.aload_n C 0 rfl rfl dX9_firstConflict_13 ?_
    refine V.getR C fX9_62 dX9_firstConflict_14 (by assumption) rfl ?_
    refine V.cVv C lX9_168 oX0_clear dX9_firstConflict_17 (ct_Cl_clear G σ 116 ClA_116) (by assumption) rfl rfl (Nat.le_of_ble_eq_true rfl) ⟨Nat.le_of_ble_eq_true rfl, Nat.le_of_ble_eq_true rfl⟩ ⟨Nat.le_of_ble_eq_true rfl, Nat.le_of_ble_eq_true rfl⟩ (fun σ17 pp_17 => ?_)
    refine V.iconst C (nI 0) c_0 dX9_firstConflict_20 ?_
    refine V.istore_n C 1 dX9_firstConflict_21 rfl (by decide) ?_
    refine V.lvs (lv' := [(0, Rf G 0), (1, .int (nI 0))]) rfl ?_
    exact loop 11 0 σ17 (by omega) (by omega) rfl pp_17.1 (hC.tri pp_17.2) pp_17.2
  · have z_ := bI_ne0 hb_7
    refine V.bipush C ((-9)) b_m9 dX9_firstConflict_10 ?_
    exact V.iretS C R dX9_firstConflict_12 ⟨(fcF_ok z_ _ _).symm, hC, FQ.refl _ _⟩
set_option maxRecDepth 100000 in
set_option maxHeartbeats 4000000 in
theorem ct_S_conflictSet (G : Gl) (σ : SS) (P : Prob) (hC : CInv σ P) : CI G mX9_conflictSet [Rf G 0] σ (fun r σ1 => r = csR P ∧ CInv σ1 P ∧ FQ 113 σ σ1) := by
  refine Ctr.of oX9_conflictSet (Nat.le_of_ble_eq_true rfl) ?_
  intro X C R hnm hz0
  have C : Cx G X cX9_conflictSet 4 RX9 5 113 0 0 := C
  have R : Cr G X (some .int) 0 0 _ := R
  show V G X 4 0 0 0 [(0, Rf G 0)] [] (wld G σ)
  have kk_0 := sk_0
  have kk_1 := sk_1
  have kk_9 := sk_9
  have kk_11 := sk_11
  have kk_15 := sk_15
  have kk_19 := sk_19
  have kk_29 := sk_29
  have kk_91 := sk_91
  have kk_101 := sk_101
  have kk_111 := sk_111
  have kk_113 := sk_113
  have kk_116 := sk_116
  have kk_119 := sk_119
  have hW := hC.2.1
  have l10_ := hW.2.1
  have loop : ∀ (m k : Nat) (set : Int32) (σ1 : SS), P.2.1.length < k + m → k ≤ P.2.1.length → csR P = csG P.2.1 m k set → CInv σ1 P → Fr 116 119 σ σ1 → V G X 4 0 0 30 [(0, Rf G 0), (1, .int set), (2, .int (nI k))] [] (wld G σ1) := by
    intro m
    induction m with
    | zero =>
      intro k set σ1 hm hk he hC1 hF1
      exact absurd hm (by omega)
    | succ m ih =>
      intro k set σ1 hm hk he hC1 hF1
      refine V.iload_n C 2 rfl rfl dX9_conflictSet_30 ?_
      refine V.aload_n C 0 rfl rfl dX9_conflictSet_31 ?_
      refine V.getR C fX9_28 dX9_conflictSet_32 (by assumption) rfl ?_
      refine V.getR C fX9_112 dX9_conflictSet_35 (by assumption) rfl ?_
      refine V.cVi C lX9_126 oX6_count dX9_conflictSet_38 (ct_St_count G σ1 11 10 SA_11) (by assumption) rfl rfl (Nat.le_of_ble_eq_true rfl) ⟨Nat.le_of_ble_eq_true rfl, Nat.le_of_ble_eq_true rfl⟩ ⟨Nat.le_of_ble_eq_true rfl, Nat.le_of_ble_eq_true rfl⟩ (fun rr_38 σ38 pp_38 => ?_)
      obtain ⟨ee_38, ff_38⟩ := pp_38
      rw [ee_38, ff_38]
      rw [hC1.eq]
      refine V.icmp_ge C 75 dX9_conflictSet_41 rfl (fun hb_41 => ?_) (fun hb_41 => ?_)
      · have zk_ : ¬ k < P.2.1.length := fun q => absurd ((nI_leI (by omega) (by omega)).mp hb_41) (by omega)
        refine V.iload_n C 1 rfl rfl dX9_conflictSet_75 ?_
        exact V.iretS C R dX9_conflictSet_76 ⟨by rw [he]; show _ = (if k < P.2.1.length then _ else _); rw [if_neg zk_], hC1, hF1.q (by omega) (by omega) (by omega)⟩
      · have zk_ : k < P.2.1.length := Nat.lt_of_not_le (fun q => hb_41 (nI_le q (by omega)))
        refine V.iload_n C 1 rfl rfl dX9_conflictSet_44 ?_
        refine V.iconst C (nI 1) c_1 dX9_conflictSet_45 ?_
        refine V.iload_n C 2 rfl rfl dX9_conflictSet_46 ?_
        refine V.ishl C dX9_conflictSet_47 ?_
        refine V.iconst C ((-1)) c_m1 dX9_conflictSet_48 ?_
        refine V.ixor C dX9_conflictSet_49 ?_
        refine V.iand C dX9_conflictSet_50 ?_
        refine V.istore_n C 3 dX9_conflictSet_51 rfl (by decide) ?_
        refine V.aload_n C 0 rfl rfl dX9_conflictSet_52 ?_
        refine V.iload_n C 3 rfl rfl dX9_conflictSet_53 ?_
        refine V.cVv C lX9_173 oX9_tryEquations dX9_conflictSet_54 (ct_S_try G σ1 P _ hC1) (by assumption) rfl rfl (Nat.le_of_ble_eq_true rfl) ⟨Nat.le_of_ble_eq_true rfl, Nat.le_of_ble_eq_true rfl⟩ ⟨Nat.le_of_ble_eq_true rfl, Nat.le_of_ble_eq_true rfl⟩ (fun σ54 pp_54 => ?_)
        refine V.aload_n C 0 rfl rfl dX9_conflictSet_57 ?_
        refine V.getR C fX9_62 dX9_conflictSet_58 (by assumption) rfl ?_
        refine V.cVi C lX9_165 oX0_agree dX9_conflictSet_61 (ct_Cl_agree G σ54 116 _ ClA_116 pp_54.1) (by assumption) rfl rfl (Nat.le_of_ble_eq_true rfl) ⟨Nat.le_of_ble_eq_true rfl, Nat.le_of_ble_eq_true rfl⟩ ⟨Nat.le_of_ble_eq_true rfl, Nat.le_of_ble_eq_true rfl⟩ (fun rr_61 σ61 pp_61 => ?_)
        obtain ⟨ee_61, ff_61⟩ := pp_61
        rw [ee_61, ff_61]
        refine V.if_ne C 69 dX9_conflictSet_64 rfl (fun hb_64 => ?_) (fun hb_64 => ?_)
        · have zc_ := bI_ne0 hb_64
          refine V.iinc C (nI (k + 1)) dX9_conflictSet_69 rfl (nI_1 k) (by decide) ?_
          refine V.goto C 30 dX9_conflictSet_72 rfl ?_
          have zc_ : (ufSel P.2.1 (bt (wo1 set k)) P.2.1.length).2.2 = true := zc_
          refine V.lvs (lv' := [(0, Rf G 0), (1, .int set), (2, .int (nI (k + 1)))]) rfl ?_
          refine ih (k + 1) _ σ54 (by omega) (by omega) ?_ pp_54.2.1 (hF1.trans pp_54.2.2)
          rw [he]
          show (if k < P.2.1.length then csG P.2.1 m (k + 1) (if (ufSel P.2.1 (bt (wo1 set k)) P.2.1.length).2.2 = true then set else wo1 set k) else _) = _
          rw [if_pos zk_, if_pos zc_]
        · have zc_ := bI_eq0 hb_64
          refine V.iload_n C 3 rfl rfl dX9_conflictSet_67 ?_
          refine V.istore_n C 1 dX9_conflictSet_68 rfl (by decide) ?_
          refine V.iinc C (nI (k + 1)) dX9_conflictSet_69 rfl (nI_1 k) (by decide) ?_
          refine V.goto C 30 dX9_conflictSet_72 rfl ?_
          have zc_ : (ufSel P.2.1 (bt (wo1 set k)) P.2.1.length).2.2 = false := zc_
          refine V.lvs (lv' := [(0, Rf G 0), (1, .int (wo1 set k)), (2, .int (nI (k + 1)))]) rfl ?_
          refine ih (k + 1) _ σ54 (by omega) (by omega) ?_ pp_54.2.1 (hF1.trans pp_54.2.2)
          rw [he]
          show (if k < P.2.1.length then csG P.2.1 m (k + 1) (if (ufSel P.2.1 (bt (wo1 set k)) P.2.1.length).2.2 = true then set else wo1 set k) else _) = _
          rw [if_pos zk_, if_neg (by rw [zc_]; decide)]
  refine V.aload_n C 0 rfl rfl dX9_conflictSet_0 ?_
  refine V.getR C fX9_58 dX9_conflictSet_1 (by assumption) rfl ?_
  refine V.cVi C lX9_165 oX0_agree dX9_conflictSet_4 (ct_Cl_agree G σ 113 _ ClA_113 hC.2.2.2.1) (by assumption) rfl rfl (Nat.le_of_ble_eq_true rfl) ⟨Nat.le_of_ble_eq_true rfl, Nat.le_of_ble_eq_true rfl⟩ ⟨Nat.le_of_ble_eq_true rfl, Nat.le_of_ble_eq_true rfl⟩ (fun rr_4 σ4 pp_4 => ?_)
  obtain ⟨ee_4, ff_4⟩ := pp_4
  rw [ee_4, ff_4]
  refine V.if_eq C 13 dX9_conflictSet_7 rfl (fun hb_7 => ?_) (fun hb_7 => ?_)
  · have z_ := bI_eq0 hb_7
    refine V.iconst C (nI 1) c_1 dX9_conflictSet_13 ?_
    refine V.aload_n C 0 rfl rfl dX9_conflictSet_14 ?_
    refine V.getR C fX9_28 dX9_conflictSet_15 (by assumption) rfl ?_
    refine V.getR C fX9_112 dX9_conflictSet_18 (by assumption) rfl ?_
    refine V.cVi C lX9_126 oX6_count dX9_conflictSet_21 (ct_St_count G σ 11 10 SA_11) (by assumption) rfl rfl (Nat.le_of_ble_eq_true rfl) ⟨Nat.le_of_ble_eq_true rfl, Nat.le_of_ble_eq_true rfl⟩ ⟨Nat.le_of_ble_eq_true rfl, Nat.le_of_ble_eq_true rfl⟩ (fun rr_21 σ21 pp_21 => ?_)
    obtain ⟨ee_21, ff_21⟩ := pp_21
    rw [ee_21, ff_21]
    rw [hC.eq]
    refine V.ishl C dX9_conflictSet_24 ?_
    refine V.iconst C (nI 1) c_1 dX9_conflictSet_25 ?_
    refine V.isub C dX9_conflictSet_26 ?_
    refine V.istore_n C 1 dX9_conflictSet_27 rfl (by decide) ?_
    refine V.iconst C (nI 0) c_0 dX9_conflictSet_28 ?_
    refine V.istore_n C 2 dX9_conflictSet_29 rfl (by decide) ?_
    refine V.lvs (lv' := [(0, Rf G 0), (1, .int (shl32 (nI 1) (nI P.2.1.length) - nI 1)), (2, .int (nI 0))]) rfl ?_
    exact loop 11 0 _ σ (by omega) (by omega) (by unfold csR; rw [if_neg (by rw [z_]; decide)]) hC (Fr.refl _ _ _)
  · have z_ := bI_ne0 hb_7
    refine V.bipush C ((-9)) b_m9 dX9_conflictSet_10 ?_
    exact V.iretS C R dX9_conflictSet_12 ⟨by unfold csR; rw [if_pos z_], hC, FQ.refl _ _⟩
