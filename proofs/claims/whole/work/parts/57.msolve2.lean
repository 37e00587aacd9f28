/-! The model's solve, solveAll. -/
/-- the classes of the chosen ones of the first n equations -/
def ufSel (l : List Stm) (S : Nat → Bool) : Nat → UF
  | 0 => uf0
  | n + 1 => if S n = true then (match l[n]? with
      | some s => ufStm (ufSel l S n) s
      | none => ufSel l S n) else ufSel l S n
theorem shr_bt : ∀ e, e < 32 → ∀ x : Int32, (shr32 x (nI e) &&& nI 1 = nI 1) ↔ bt x e = true := by
  intro e he x
  have h5 : (nI e &&& 31) = nI e := by
    revert e; decide
  unfold shr32 bt
  rw [h5]
  have hb : (x >>> nI e).toBitVec.getLsbD 0 = x.toBitVec.getLsbD e := by
    rw [Int32.toBitVec_shiftRight]
    have hs : ((nI e).toBitVec.smod 32) = BitVec.ofNat 32 e := by
      revert e; decide
    rw [hs, BitVec.getLsbD_sshiftRight']
    have : (BitVec.ofNat 32 e).toNat = e := by rw [BitVec.toNat_ofNat]; omega
    rw [this]
    simp
    intro q; omega
  rw [← hb]
  generalize (x >>> nI e) = y
  have e1 : (nI 1 : Int32).toBitVec = 1#32 := by decide
  constructor
  · intro h
    have h1 := congrArg (fun z : Int32 => z.toBitVec.getLsbD 0) h
    simp only [Int32.toBitVec_and, BitVec.getLsbD_and, e1] at h1
    simpa using h1
  · intro h
    apply Int32.toBitVec_inj.mp
    rw [Int32.toBitVec_and, e1]
    apply BitVec.eq_of_getLsbD_eq
    intro i hi
    rw [BitVec.getLsbD_and]
    by_cases q : i = 0
    · rw [q, h]; rfl
    · have : (1#32 : BitVec 32).getLsbD i = false := by
        rw [BitVec.getLsbD_one]; simp [q]
      rw [this, Bool.and_false]
set_option maxRecDepth 100000 in
set_option maxHeartbeats 4000000 in
theorem ct_M_solve (G : Gl) (σ : SS) (P : Prob) (set : Int32) (S : Nat → Bool) (hP : FP (σ.2.1 124) P) (hwf : wfP P) (hS : ∀ e, e < 10 → bt set e = S e) : CI G mX10_solve [Rf G 123, .int set] σ (fun r σ1 => r = bI (ufSel P.2.1 S P.2.1.length).2.2 ∧ RCm σ1 (ufSel P.2.1 S P.2.1.length) ∧ FM [21] [132, 133] σ σ1) := by
  refine Ctr.of oX10_solve (Nat.le_of_ble_eq_true rfl) ?_
  intro X C R hnm hz0
  have C : Cx G X cX10_solve 3 RX10 4 90 0 0 := C
  have R : Cr G X (some .boolean) 0 0 _ := R
  show V G X 3 0 0 0 [(0, Rf G 123), (1, .int set)] [] (wld G σ)
  have kk_123 := sk_123
  have kk_124 := sk_124
  have kk_131 := sk_131
  have kk_132 := sk_132
  have kk_133 := sk_133
  have l10_ := hwf.2.1
  have loopE : ∀ (m e : Nat) (σ1 : SS), P.2.1.length < e + m → e ≤ P.2.1.length → RCm σ1 (ufSel P.2.1 S e) → FM [21] [132, 133] σ σ1 → V G X 3 0 0 37 [(0, Rf G 123), (1, .int set), (2, .int (nI e))] [] (wld G σ1) := by
    intro m
    induction m with
    | zero =>
      intro e σ1 hm he hU1 hF1
      exact absurd hm (by omega)
    | succ m ih =>
      intro e σ1 hm he hU1 hF1
      refine V.iload_n C 2 rfl rfl dX10_solve_37 ?_
      refine V.aload_n C 0 rfl rfl dX10_solve_38 ?_
      refine V.getR C fX10_7 dX10_solve_39 (by assumption) rfl ?_
      refine V.bipush C (nI 8) b_8 dX10_solve_42 ?_
      refine V.ialdN C dX10_solve_44 (by assumption) (by omega) ?_
      rw [hF1.a (by decide), hP.2.1]
      refine V.icmp_ge C 68 dX10_solve_45 rfl (fun hb_45 => ?_) (fun hb_45 => ?_)
      · have he8 : e = P.2.1.length := by have := (nI_leI (by omega) (by omega)).mp hb_45; omega
        refine V.aload_n C 0 rfl rfl dX10_solve_68 ?_
        refine V.getI C fX10_200 dX10_solve_69 (by assumption) rfl ?_
        rw [hU1.2.2.1]
        refine V.if_ne C 79 dX10_solve_72 rfl (fun hb_72 => ?_) (fun hb_72 => ?_)
        · have zz_ := bI_ne0 hb_72
          have zr_ : (ufSel P.2.1 S e).2.2 = false := by cases h : (ufSel P.2.1 S e).2.2 <;> simp_all
          refine V.iconst C (nI 0) c_0 dX10_solve_79 ?_
          exact V.zretS C R dX10_solve_80 (by first | exact Or.inl rfl | exact Or.inr rfl | exact bI01 _) ⟨by rw [← he8, zr_]; rfl, by rw [← he8]; exact hU1, hF1⟩
        · have zz_ := bI_eq0 hb_72
          have zr_ : (ufSel P.2.1 S e).2.2 = true := by cases h : (ufSel P.2.1 S e).2.2 <;> simp_all
          refine V.iconst C (nI 1) c_1 dX10_solve_75 ?_
          refine V.goto C 80 dX10_solve_76 rfl ?_
          exact V.zretS C R dX10_solve_80 (by first | exact Or.inl rfl | exact Or.inr rfl | exact bI01 _) ⟨by rw [← he8, zr_]; rfl, by rw [← he8]; exact hU1, hF1⟩
      · have he8 : e < P.2.1.length := Nat.lt_of_not_le (fun q => hb_45 (nI_le q (by omega)))
        obtain ⟨s, hs_⟩ := get_some he8
        refine V.iload_n C 1 rfl rfl dX10_solve_48 ?_
        refine V.iload_n C 2 rfl rfl dX10_solve_49 ?_
        refine V.ishr C dX10_solve_50 ?_
        refine V.iconst C (nI 1) c_1 dX10_solve_51 ?_
        refine V.iand C dX10_solve_52 ?_
        refine V.iconst C (nI 1) c_1 dX10_solve_53 ?_
        refine V.icmp_ne C 62 dX10_solve_54 rfl (fun hb_54 => ?_) (fun hb_54 => ?_)
        · have zs_ : ¬ S e = true := fun q => hb_54 ((shr_bt e (by omega) set).mpr ((hS e (by omega)).trans q))
          have en_ : ufSel P.2.1 S (e + 1) = ufSel P.2.1 S e := by
            show (if S e = true then _ else _) = _
            rw [if_neg zs_]
          refine V.iinc C (nI (e + 1)) dX10_solve_62 rfl (nI_1 e) (by decide) ?_
          refine V.goto C 37 dX10_solve_65 rfl ?_
          refine V.lvs (lv' := [(0, Rf G 123), (1, .int set), (2, .int (nI (e + 1)))]) rfl ?_
          exact ih (e + 1) σ1 (by omega) (by omega) (by rw [en_]; exact hU1) hF1
        · have zs_ : S e = true := (hS e (by omega)).symm.trans ((shr_bt e (by omega) set).mp hb_54)
          have en_ : ufSel P.2.1 S (e + 1) = ufStm (ufSel P.2.1 S e) s := by
            show (if S e = true then _ else _) = _
            rw [if_pos zs_, hs_]
          refine V.aload_n C 0 rfl rfl dX10_solve_57 ?_
          refine V.iload_n C 2 rfl rfl dX10_solve_58 ?_
          refine V.cVv C lX10_215 oX10_equateTerms dX10_solve_59 (ct_M_eqTerms G σ1 P (ufSel P.2.1 S e) e s (by rw [hF1.a (by decide)]; exact hP) hwf (stG_eq hwf hs_) hU1) (by assumption) rfl rfl (Nat.le_of_ble_eq_true rfl) ⟨Nat.le_of_ble_eq_true rfl, Nat.le_of_ble_eq_true rfl⟩ ⟨Nat.le_of_ble_eq_true rfl, Nat.le_of_ble_eq_true rfl⟩ (fun σ59 pp_59 => ?_)
          refine V.iinc C (nI (e + 1)) dX10_solve_62 rfl (nI_1 e) (by decide) ?_
          refine V.goto C 37 dX10_solve_65 rfl ?_
          refine V.lvs (lv' := [(0, Rf G 123), (1, .int set), (2, .int (nI (e + 1)))]) rfl ?_
          exact ih (e + 1) σ59 (by omega) (by omega) (by rw [en_]; exact pp_59.1) (hF1.trans pp_59.2)
  have loop0 : ∀ (m k : Nat) (σ1 : SS), 128 < k + m → k ≤ 128 → (∀ x, x < k → σ1.2.1 132 x = nI x ∧ σ1.2.1 133 x = -9) → FM [] [132, 133] σ σ1 → V G X 3 0 0 2 [(0, Rf G 123), (1, .int set), (2, .int (nI k))] [] (wld G σ1) := by
    intro m
    induction m with
    | zero =>
      intro k σ1 hm hk h1 hF1
      exact absurd hm (by omega)
    | succ m ih =>
      intro k σ1 hm hk h1 hF1
      refine V.iload_n C 2 rfl rfl dX10_solve_2 ?_
      refine V.sipush C (nI 128) s_128 dX10_solve_3 ?_
      refine V.icmp_ge C 30 dX10_solve_6 rfl (fun hb_6 => ?_) (fun hb_6 => ?_)
      · have zk_ : k = 128 := by have := (nI_leI (by decide) (by omega)).mp hb_6; omega
        refine V.aload_n C 0 rfl rfl dX10_solve_30 ?_
        refine V.iconst C (nI 0) c_0 dX10_solve_31 ?_
        refine V.putZ C fX10_200 dX10_solve_32 (by assumption) rfl (by first | exact Or.inl rfl | exact Or.inr rfl | exact bI01 _) ?_
        refine V.iconst C (nI 0) c_0 dX10_solve_35 ?_
        refine V.istore_n C 2 dX10_solve_36 rfl (by decide) ?_
        refine V.lvs (lv' := [(0, Rf G 123), (1, .int set), (2, .int (nI 0))]) rfl ?_
        subst zk_
        refine loopE (P.2.1.length + 1) 0 _ (by omega) (by omega) ⟨⟨fun x => x, fun x hx => (h1 x hx).1, fun x hx => ⟨Nat.le_refl _, rfl, Iff.rfl⟩⟩, fun x hx _ => ⟨fun _ => (h1 x hx).2, fun v hv => ?_⟩, sF_F _ _ _ _, fun x v hv => ?_⟩ ((hF1.mono (by decide) (by decide)).sF _ (by decide))
        · cases hv
        · cases hv
      · have zk_ : k < 128 := Nat.lt_of_not_le (fun q => hb_6 (nI_le q (by omega)))
        refine V.aload_n C 0 rfl rfl dX10_solve_9 ?_
        refine V.getR C fX10_35 dX10_solve_10 (by assumption) rfl ?_
        refine V.iload_n C 2 rfl rfl dX10_solve_13 ?_
        refine V.iload_n C 2 rfl rfl dX10_solve_14 ?_
        refine V.iastN C dX10_solve_15 (by assumption) (by omega) ?_
        refine V.aload_n C 0 rfl rfl dX10_solve_16 ?_
        refine V.getR C fX10_38 dX10_solve_17 (by assumption) rfl ?_
        refine V.iload_n C 2 rfl rfl dX10_solve_20 ?_
        refine V.bipush C ((-9)) b_m9 dX10_solve_21 ?_
        refine V.iastN C dX10_solve_23 (by assumption) (by omega) ?_
        refine V.iinc C (nI (k + 1)) dX10_solve_24 rfl (nI_1 k) (by decide) ?_
        refine V.goto C 2 dX10_solve_27 rfl ?_
        refine V.lvs (lv' := [(0, Rf G 123), (1, .int set), (2, .int (nI (k + 1)))]) rfl ?_
        refine ih (k + 1) _ (by omega) (by omega) (fun j hj => ?_) ((hF1.sA _ (by decide)).sA _ (by decide))
        rw [sA_A, sA_ne _ _ (show (132 : Nat) ≠ 133 by decide), sA_A, sA_ne _ _ (show (133 : Nat) ≠ 132 by decide)]
        by_cases e_ : j = k
        · rw [e_, up_eq, up_eq]; exact ⟨rfl, rfl⟩
        · rw [up_ne _ _ e_, up_ne _ _ e_]; exact h1 j (by omega)
  refine V.iconst C (nI 0) c_0 dX10_solve_0 ?_
  refine V.istore_n C 2 dX10_solve_1 rfl (by decide) ?_
  refine V.lvs (lv' := [(0, Rf G 123), (1, .int set), (2, .int (nI 0))]) rfl ?_
  exact loop0 129 0 σ (by omega) (by omega) (fun x hx => absurd hx (by omega)) (FM.refl _ _ _)
theorem ones_bt : ∀ n, n < 11 → ∀ e, e < 10 → bt (shl32 (nI 1) (nI n) - nI 1) e = decide (e < n) := by decide +kernel
theorem ufSel_all (l : List Stm) (S : Nat → Bool) : ∀ n, n ≤ l.length → (∀ e, e < n → S e = true) → ufSel l S n = ufAll uf0 (l.take n)
  | 0, _, _ => by rw [List.take_zero]; rfl
  | n + 1, hn, hS => by
    have hs : l[n]? = some l[n] := List.getElem?_eq_getElem (by omega)
    have ih := ufSel_all l S n (by omega) (fun e he => hS e (by omega))
    show (if S n = true then _ else _) = _
    rw [if_pos (hS n (by omega)), hs, List.take_succ, hs]
    unfold ufAll
    rw [List.foldl_append]
    show ufStm (ufSel l S n) l[n] = ufStm (List.foldl ufStm uf0 (l.take n)) l[n]
    rw [ih]; rfl
set_option maxRecDepth 100000 in
set_option maxHeartbeats 4000000 in
theorem ct_M_solveAll (G : Gl) (σ : SS) (P : Prob) (hP : FP (σ.2.1 124) P) (hwf : wfP P) : CI G mX10_solveAll [Rf G 123] σ (fun r σ1 => r = bI (ufAll uf0 P.2.1).2.2 ∧ RCm σ1 (ufAll uf0 P.2.1) ∧ FM [21] [132, 133] σ σ1) := by
  refine Ctr.of oX10_solveAll (Nat.le_of_ble_eq_true rfl) ?_
  intro X C R hnm hz0
  have C : Cx G X cX10_solveAll 1 RX10 5 112 0 0 := C
  have R : Cr G X (some .boolean) 0 0 _ := R
  show V G X 1 0 0 0 [(0, Rf G 123)] [] (wld G σ)
  have kk_123 := sk_123
  have kk_124 := sk_124
  have kk_131 := sk_131
  have kk_132 := sk_132
  have kk_133 := sk_133
  have l10_ := hwf.2.1
  refine V.aload_n C 0 rfl rfl dX10_solveAll_0 ?_
  refine V.iconst C (nI 1) c_1 dX10_solveAll_1 ?_
  refine V.aload_n C 0 rfl rfl dX10_solveAll_2 ?_
  refine V.getR C fX10_7 dX10_solveAll_3 (by assumption) rfl ?_
  refine V.bipush C (nI 8) b_8 dX10_solveAll_6 ?_
  refine V.ialdN C dX10_solveAll_8 (by assumption) (by omega) ?_
  rw [hP.2.1]
  refine V.ishl C dX10_solveAll_9 ?_
  refine V.iconst C (nI 1) c_1 dX10_solveAll_10 ?_
  refine V.isub C dX10_solveAll_11 ?_
  refine V.cVi C lX10_218 oX10_solve dX10_solveAll_12 (ct_M_solve G σ P _ (fun e => decide (e < P.2.1.length)) hP hwf (fun e he => ones_bt _ (by omega) e he)) (by assumption) rfl rfl (Nat.le_of_ble_eq_true rfl) ⟨Nat.le_of_ble_eq_true rfl, Nat.le_of_ble_eq_true rfl⟩ ⟨Nat.le_of_ble_eq_true rfl, Nat.le_of_ble_eq_true rfl⟩ (fun rr_12 σ12 pp_12 => ?_)
  exact V.zretS C R dX10_solveAll_15 (by rw [pp_12.1]; exact bI01 _) (by
    have e_ := ufSel_all P.2.1 (fun e => decide (e < P.2.1.length)) P.2.1.length (Nat.le_refl _) (fun e he => decide_eq_true he)
    rw [List.take_length] at e_
    rw [e_] at pp_12
    exact pp_12)
