/-! The model's valueOf, holds, isModel, occurs, findUsed. -/
/-- a bit's value where the classes in os are one -/
def vW (u : UF) (os : List Nat) (a : Nat) : Nat := if isV a = true then (if u.1 (vb a) ∈ os then 1 else (u.2.1 (u.1 (vb a))).getD 0) else a % 256
def eqW (u : UF) (os : List Nat) (s : Stm) : Nat → Bool
  | 0 => true
  | k + 1 => eqW u os s k && decide (vW u os (s.2.1 k) = vW u os (s.2.2 k))
theorem eqW_iff (u : UF) (os : List Nat) (s : Stm) : ∀ n, eqW u os s n = true ↔ ∀ k, k < n → vW u os (s.2.1 k) = vW u os (s.2.2 k)
  | 0 => ⟨fun _ k hk => absurd hk (by omega), fun _ => rfl⟩
  | n + 1 => by
    show (eqW u os s n && decide _) = true ↔ _
    rw [Bool.and_eq_true, decide_eq_true_iff, eqW_iff u os s n]
    constructor
    · intro ⟨h1, h2⟩ k hk
      by_cases q : k = n
      · rw [q]; exact h2
      · exact h1 k (by omega)
    · intro h; exact ⟨fun k hk => h k (by omega), h n (by omega)⟩
def hW (u : UF) (os : List Nat) (s : Stm) : Bool := !eqW u os s s.1
def mW (u : UF) (os : List Nat) (D : List Stm) : Bool := D.all (hW u os)
/-- the model's cells hold the ones os -/
def RO (σ : SS) (os : List Nat) : Prop := σ.1 123 23 = nI os.length ∧ os.length ≤ 3 ∧ ∀ (i r : Nat), os[i]? = some r → σ.2.1 134 i = nI r ∧ r < 128
theorem stG_di {P : Prob} {i : Nat} {s : Stm} (h : P.2.2[i]? = some s) : stG P (10 + i) = some s := by
  unfold stG; rw [if_neg (by omega), show 10 + i - 10 = i by omega]; exact h
theorem vbk_lt {x : Nat} (h : okB x) (hv : isV x = true) : vb x < 128 := by
  unfold isV at hv
  have := of_decide_eq_true hv
  unfold vb
  rcases h.2 with q | q <;> omega
theorem vW_lt {u : UF} (hv : ∀ x v, u.2.1 x = some v → v < 2) (os : List Nat) {a : Nat} (ha : okB a) : vW u os a < 2 := by
  unfold vW
  split
  · split
    · decide
    · cases q : u.2.1 (u.1 (vb a)) with
      | none => decide
      | some w => exact hv _ _ q
  · rename_i h
    rcases ha.2 with q | q
    · exact q
    · exact absurd (show isV a = true from decide_eq_true q.1) h
set_option maxRecDepth 100000 in
set_option maxHeartbeats 4000000 in
theorem ct_M_valueOf (G : Gl) (σ : SS) (u : UF) (os : List Nat) (a : Nat) (hU : RCm σ u) (hu : u.2.2 = true) (hO : RO σ os) (ha : okB a) : CI G mX10_valueOf [Rf G 123, .int (nI a)] σ (fun r σ1 => r = nI (vW u os a) ∧ σ1 = σ) := by
  refine Ctr.of oX10_valueOf (Nat.le_of_ble_eq_true rfl) ?_
  intro X C R hnm hz0
  have C : Cx G X cX10_valueOf 5 RX10 1 22 0 0 := C
  have R : Cr G X (some .int) 0 0 _ := R
  show V G X 5 0 0 0 [(0, Rf G 123), (1, .int (nI a))] [] (wld G σ)
  have kk_123 := sk_123
  have kk_124 := sk_124
  have kk_131 := sk_131
  have kk_132 := sk_132
  have kk_133 := sk_133
  have kk_134 := sk_134
  have kk_135 := sk_135
  have o3_ := hO.2.1
  have loop : ∀ (rt base : Nat), rt < 128 → vW u os a = (if rt ∈ os then 1 else base) → ∀ (m k v : Nat), os.length < k + m → k ≤ os.length → v = (if rt ∈ os.take k then 1 else base) → V G X 5 0 0 48 [(0, Rf G 123), (1, .int (nI a)), (2, .int (nI rt)), (3, .int (nI v)), (4, .int (nI k))] [] (wld G σ) := by
    intro rt base hrt he m
    induction m with
    | zero =>
      intro k v hm hk hv
      exact absurd hm (by omega)
    | succ m ih =>
      intro k v hm hk hv
      refine V.iload C rfl dX10_valueOf_48 ?_
      refine V.aload_n C 0 rfl rfl dX10_valueOf_50 ?_
      refine V.getI C fX10_233 dX10_valueOf_51 (by assumption) rfl ?_
      rw [hO.1]
      refine V.icmp_ge C 80 dX10_valueOf_54 rfl (fun hb_54 => ?_) (fun hb_54 => ?_)
      · have hk8 : k = os.length := by have := (nI_leI (by omega) (by omega)).mp hb_54; omega
        refine V.iload_n C 3 rfl rfl dX10_valueOf_80 ?_
        exact V.iretS C R dX10_valueOf_81 ⟨by rw [he, hv, hk8, List.take_length], rfl⟩
      · have hk8 : k < os.length := Nat.lt_of_not_le (fun q => hb_54 (nI_le q (by omega)))
        obtain ⟨r, hkr⟩ : ∃ r, os[k]? = some r := ⟨_, List.getElem?_eq_getElem hk8⟩
        have hr8 := (hO.2.2 k r hkr).2
        refine V.aload_n C 0 rfl rfl dX10_valueOf_57 ?_
        refine V.getR C fX10_41 dX10_valueOf_58 (by assumption) rfl ?_
        refine V.iload C rfl dX10_valueOf_61 ?_
        refine V.ialdN C dX10_valueOf_63 (by assumption) (by omega) ?_
        rw [(hO.2.2 k r hkr).1]
        refine V.iload_n C 2 rfl rfl dX10_valueOf_64 ?_
        refine V.icmp_ne C 72 dX10_valueOf_65 rfl (fun hb_65 => ?_) (fun hb_65 => ?_)
        · have e_ : ¬ r = rt := fun q => hb_65 (by rw [q])
          refine V.iload_n C 3 rfl rfl dX10_valueOf_72 ?_
          refine V.istore_n C 3 dX10_valueOf_73 rfl (by decide) ?_
          refine V.iinc C (nI (k + 1)) dX10_valueOf_74 rfl (nI_1 k) (by decide) ?_
          refine V.goto C 48 dX10_valueOf_77 rfl ?_
          refine V.lvs (lv' := [(0, Rf G 123), (1, .int (nI a)), (2, .int (nI rt)), (3, .int (nI v)), (4, .int (nI (k + 1)))]) rfl ?_
          refine ih (k + 1) v (by omega) (by omega) ?_
          have mm_ : (rt ∈ os.take (k + 1)) ↔ rt ∈ os.take k := by
            rw [List.take_succ, hkr, List.mem_append]
            exact ⟨fun q => q.elim id (fun q2 => absurd (List.mem_singleton.mp q2).symm e_), Or.inl⟩
          rw [hv]
          by_cases qm_ : rt ∈ os.take k
          · rw [if_pos qm_, if_pos (mm_.mpr qm_)]
          · rw [if_neg qm_, if_neg (fun z => qm_ (mm_.mp z))]
        · have e_ : r = rt := nI_pe (by omega) (by omega) hb_65
          refine V.iconst C (nI 1) c_1 dX10_valueOf_68 ?_
          refine V.goto C 73 dX10_valueOf_69 rfl ?_
          refine V.istore_n C 3 dX10_valueOf_73 rfl (by decide) ?_
          refine V.iinc C (nI (k + 1)) dX10_valueOf_74 rfl (nI_1 k) (by decide) ?_
          refine V.goto C 48 dX10_valueOf_77 rfl ?_
          refine V.lvs (lv' := [(0, Rf G 123), (1, .int (nI a)), (2, .int (nI rt)), (3, .int (nI 1)), (4, .int (nI (k + 1)))]) rfl ?_
          refine ih (k + 1) 1 (by omega) (by omega) ?_
          rw [List.take_succ, hkr, if_pos (List.mem_append_right _ (by rw [e_]; exact List.mem_singleton_self _))]
  refine V.aload_n C 0 rfl rfl dX10_valueOf_0 ?_
  refine V.iload_n C 1 rfl rfl dX10_valueOf_1 ?_
  refine V.cVi C lX10_165 oX10_isOfVariable dX10_valueOf_2 (ct_M_isOV G σ a ha.1) (by assumption) rfl rfl (Nat.le_of_ble_eq_true rfl) ⟨Nat.le_of_ble_eq_true rfl, Nat.le_of_ble_eq_true rfl⟩ ⟨Nat.le_of_ble_eq_true rfl, Nat.le_of_ble_eq_true rfl⟩ (fun rr_2 σ2 pp_2 => ?_)
  obtain ⟨ee_2, ff_2⟩ := pp_2
  rw [ee_2, ff_2]
  refine V.if_ne C 14 dX10_valueOf_5 rfl (fun hb_5 => ?_) (fun hb_5 => ?_)
  · have hv_ := bI_ne0 hb_5
    have rt_ := hU.bits (vbk_lt ha hv_)
    have v2_ := hU.2.2.2 (u.1 (vb a))
    have ev_ : vW u os a = (if u.1 (vb a) ∈ os then 1 else (u.2.1 (u.1 (vb a))).getD 0) := by unfold vW; rw [if_pos hv_]
    refine V.aload_n C 0 rfl rfl dX10_valueOf_14 ?_
    refine V.iload_n C 1 rfl rfl dX10_valueOf_15 ?_
    refine V.cSi C lX10_168 oX10_variableBit dX10_valueOf_16 (ct_M_vb G σ a ha.1 hv_) rfl rfl (Nat.le_of_ble_eq_true rfl) ⟨Nat.le_of_ble_eq_true rfl, Nat.le_of_ble_eq_true rfl⟩ ⟨Nat.le_of_ble_eq_true rfl, Nat.le_of_ble_eq_true rfl⟩ (fun rr_16 σ16 pp_16 => ?_)
    obtain ⟨ee_16, ff_16⟩ := pp_16
    rw [ee_16, ff_16]
    refine V.cVi C lX10_203 oX10_rootOf dX10_valueOf_19 (ct_M_rootOf G σ u (vb a) hU (vbk_lt ha hv_)) (by assumption) rfl rfl (Nat.le_of_ble_eq_true rfl) ⟨Nat.le_of_ble_eq_true rfl, Nat.le_of_ble_eq_true rfl⟩ ⟨Nat.le_of_ble_eq_true rfl, Nat.le_of_ble_eq_true rfl⟩ (fun rr_19 σ19 pp_19 => ?_)
    obtain ⟨ee_19, ff_19⟩ := pp_19
    rw [ee_19, ff_19]
    refine V.istore_n C 2 dX10_valueOf_22 rfl (by decide) ?_
    refine V.aload_n C 0 rfl rfl dX10_valueOf_23 ?_
    refine V.getR C fX10_38 dX10_valueOf_24 (by assumption) rfl ?_
    refine V.iload_n C 2 rfl rfl dX10_valueOf_27 ?_
    refine V.ialdN C dX10_valueOf_28 (by assumption) rt_.1 ?_
    rw [hU.val hu rt_.1 rt_.2]
    refine V.bipush C ((-9)) b_m9 dX10_valueOf_29 ?_
    refine V.icmp_ne C 38 dX10_valueOf_31 rfl (fun hb_31 => ?_) (fun hb_31 => ?_)
    · have z_ : ¬ u.2.1 (u.1 (vb a)) = none := fun q => hb_31 ((oN_m9 v2_).mpr q)
      obtain ⟨w_, hw_⟩ := Option.ne_none_iff_exists'.mp z_
      rw [hw_] at ev_
      refine V.aload_n C 0 rfl rfl dX10_valueOf_38 ?_
      refine V.getR C fX10_38 dX10_valueOf_39 (by assumption) rfl ?_
      refine V.iload_n C 2 rfl rfl dX10_valueOf_42 ?_
      refine V.ialdN C dX10_valueOf_43 (by assumption) rt_.1 ?_
      rw [hU.val hu rt_.1 rt_.2]
      rw [hw_]
      show V G X 5 0 0 44 _ [.int (nI w_)] (wld G σ)
      refine V.istore_n C 3 dX10_valueOf_44 rfl (by decide) ?_
      refine V.iconst C (nI 0) c_0 dX10_valueOf_45 ?_
      refine V.istore C dX10_valueOf_46 (by decide) ?_
      refine V.lvs (lv' := [(0, Rf G 123), (1, .int (nI a)), (2, .int (nI (u.1 (vb a)))), (3, .int (nI w_)), (4, .int (nI 0))]) rfl ?_
      exact loop (u.1 (vb a)) w_ rt_.1 ev_ (os.length + 1) 0 w_ (by omega) (by omega) (by rw [List.take_zero, if_neg List.not_mem_nil])
    · have z_ : u.2.1 (u.1 (vb a)) = none := (oN_m9 v2_).mp hb_31
      rw [z_] at ev_
      refine V.iconst C (nI 0) c_0 dX10_valueOf_34 ?_
      refine V.goto C 44 dX10_valueOf_35 rfl ?_
      refine V.istore_n C 3 dX10_valueOf_44 rfl (by decide) ?_
      refine V.iconst C (nI 0) c_0 dX10_valueOf_45 ?_
      refine V.istore C dX10_valueOf_46 (by decide) ?_
      refine V.lvs (lv' := [(0, Rf G 123), (1, .int (nI a)), (2, .int (nI (u.1 (vb a)))), (3, .int (nI 0)), (4, .int (nI 0))]) rfl ?_
      exact loop (u.1 (vb a)) 0 rt_.1 ev_ (os.length + 1) 0 0 (by omega) (by omega) (by rw [List.take_zero, if_neg List.not_mem_nil])
  · have hv_ := bI_eq0 hb_5
    refine V.iload_n C 1 rfl rfl dX10_valueOf_8 ?_
    refine V.sipush C (nI 256) s_256 dX10_valueOf_9 ?_
    refine V.irem C (by decide) dX10_valueOf_12 ?_
    rw [nI_rem (by have := ha.1; omega) (by decide) (by decide)]
    exact V.iretS C R dX10_valueOf_13 ⟨by unfold vW; rw [if_neg (by rw [hv_]; decide)], rfl⟩
set_option maxRecDepth 100000 in
set_option maxHeartbeats 4000000 in
theorem ct_M_holds (G : Gl) (σ : SS) (P : Prob) (u : UF) (os : List Nat) (d : Nat) (s : Stm) (hP : FP (σ.2.1 124) P) (hwf : wfP P) (hU : RCm σ u) (hu : u.2.2 = true) (hO : RO σ os) (hs : P.2.2[d]? = some s) : CI G mX10_holds [Rf G 123, .int (nI d)] σ (fun r σ1 => r = bI (hW u os s) ∧ σ1 = σ) := by
  refine Ctr.of oX10_holds (Nat.le_of_ble_eq_true rfl) ?_
  intro X C R hnm hz0
  have C : Cx G X cX10_holds 4 RX10 2 46 0 0 := C
  have R : Cr G X (some .boolean) 0 0 _ := R
  show V G X 4 0 0 0 [(0, Rf G 123), (1, .int (nI d))] [] (wld G σ)
  have kk_123 := sk_123
  have kk_124 := sk_124
  have kk_131 := sk_131
  have kk_132 := sk_132
  have kk_133 := sk_133
  have kk_134 := sk_134
  have kk_135 := sk_135
  have okS_ := hwf.okL2 d s hs
  have w16_ := okS_.2.1
  have loop : ∀ (m k : Nat), s.1 < k + m → k ≤ s.1 → eqW u os s k = true → V G X 4 0 0 7 [(0, Rf G 123), (1, .int (nI d)), (2, .int (nI (10 + d))), (3, .int (nI k))] [] (wld G σ) := by
    intro m
    induction m with
    | zero =>
      intro k hm hk he
      exact absurd hm (by omega)
    | succ m ih =>
      intro k hm hk he
      refine V.iload_n C 3 rfl rfl dX10_holds_7 ?_
      refine V.aload_n C 0 rfl rfl dX10_holds_8 ?_
      refine V.iload_n C 2 rfl rfl dX10_holds_9 ?_
      refine V.cVi C lX10_158 oX10_widthOf dX10_holds_10 (ct_M_wOf G σ P (10 + d) s hP hwf (stG_di hs)) (by assumption) rfl rfl (Nat.le_of_ble_eq_true rfl) ⟨Nat.le_of_ble_eq_true rfl, Nat.le_of_ble_eq_true rfl⟩ ⟨Nat.le_of_ble_eq_true rfl, Nat.le_of_ble_eq_true rfl⟩ (fun rr_10 σ10 pp_10 => ?_)
      obtain ⟨ee_10, ff_10⟩ := pp_10
      rw [ee_10, ff_10]
      refine V.icmp_ge C 49 dX10_holds_13 rfl (fun hb_13 => ?_) (fun hb_13 => ?_)
      · have hk8 : k = s.1 := by have := (nI_leI (by omega) (by omega)).mp hb_13; omega
        refine V.iconst C (nI 0) c_0 dX10_holds_49 ?_
        exact V.zretS C R dX10_holds_50 (by first | exact Or.inl rfl | exact Or.inr rfl | exact bI01 _) ⟨by unfold hW; rw [← hk8, he]; rfl, rfl⟩
      · have hk8 : k < s.1 := Nat.lt_of_not_le (fun q => hb_13 (nI_le q (by omega)))
        have l2_ := vW_lt hU.2.2.2 os (okS_.2.2 k hk8).1
        have r2_ := vW_lt hU.2.2.2 os (okS_.2.2 k hk8).2
        refine V.aload_n C 0 rfl rfl dX10_holds_16 ?_
        refine V.aload_n C 0 rfl rfl dX10_holds_17 ?_
        refine V.iload_n C 2 rfl rfl dX10_holds_18 ?_
        refine V.iconst C (nI 0) c_0 dX10_holds_19 ?_
        refine V.iload_n C 3 rfl rfl dX10_holds_20 ?_
        refine V.cVi C lX10_161 oX10_bitOf dX10_holds_21 (ct_M_bitOf G σ P (10 + d) 0 k s hP hwf (stG_di hs) (by decide) hk8) (by assumption) rfl rfl (Nat.le_of_ble_eq_true rfl) ⟨Nat.le_of_ble_eq_true rfl, Nat.le_of_ble_eq_true rfl⟩ ⟨Nat.le_of_ble_eq_true rfl, Nat.le_of_ble_eq_true rfl⟩ (fun rr_21 σ21 pp_21 => ?_)
        obtain ⟨ee_21, ff_21⟩ := pp_21
        rw [ee_21, ff_21]
        refine V.cVi C lX10_236 oX10_valueOf dX10_holds_24 (ct_M_valueOf G σ u os (s.2.1 k) hU hu hO (okS_.2.2 k hk8).1) (by assumption) rfl rfl (Nat.le_of_ble_eq_true rfl) ⟨Nat.le_of_ble_eq_true rfl, Nat.le_of_ble_eq_true rfl⟩ ⟨Nat.le_of_ble_eq_true rfl, Nat.le_of_ble_eq_true rfl⟩ (fun rr_24 σ24 pp_24 => ?_)
        obtain ⟨ee_24, ff_24⟩ := pp_24
        rw [ee_24, ff_24]
        refine V.aload_n C 0 rfl rfl dX10_holds_27 ?_
        refine V.aload_n C 0 rfl rfl dX10_holds_28 ?_
        refine V.iload_n C 2 rfl rfl dX10_holds_29 ?_
        refine V.iconst C (nI 1) c_1 dX10_holds_30 ?_
        refine V.iload_n C 3 rfl rfl dX10_holds_31 ?_
        refine V.cVi C lX10_161 oX10_bitOf dX10_holds_32 (ct_M_bitOf G σ P (10 + d) 1 k s hP hwf (stG_di hs) (by decide) hk8) (by assumption) rfl rfl (Nat.le_of_ble_eq_true rfl) ⟨Nat.le_of_ble_eq_true rfl, Nat.le_of_ble_eq_true rfl⟩ ⟨Nat.le_of_ble_eq_true rfl, Nat.le_of_ble_eq_true rfl⟩ (fun rr_32 σ32 pp_32 => ?_)
        obtain ⟨ee_32, ff_32⟩ := pp_32
        rw [ee_32, ff_32]
        refine V.cVi C lX10_236 oX10_valueOf dX10_holds_35 (ct_M_valueOf G σ u os (s.2.2 k) hU hu hO (okS_.2.2 k hk8).2) (by assumption) rfl rfl (Nat.le_of_ble_eq_true rfl) ⟨Nat.le_of_ble_eq_true rfl, Nat.le_of_ble_eq_true rfl⟩ ⟨Nat.le_of_ble_eq_true rfl, Nat.le_of_ble_eq_true rfl⟩ (fun rr_35 σ35 pp_35 => ?_)
        obtain ⟨ee_35, ff_35⟩ := pp_35
        rw [ee_35, ff_35]
        refine V.icmp_eq C 43 dX10_holds_38 rfl (fun hb_38 => ?_) (fun hb_38 => ?_)
        · have e_ : vW u os (s.2.1 k) = vW u os (s.2.2 k) := nI_pe (by omega) (by omega) hb_38
          refine V.iinc C (nI (k + 1)) dX10_holds_43 rfl (nI_1 k) (by decide) ?_
          refine V.goto C 7 dX10_holds_46 rfl ?_
          refine V.lvs (lv' := [(0, Rf G 123), (1, .int (nI d)), (2, .int (nI (10 + d))), (3, .int (nI (k + 1)))]) rfl ?_
          exact ih (k + 1) (by omega) (by omega) (by show (eqW u os s k && decide _) = true; rw [he, decide_eq_true e_]; rfl)
        · have e_ : ¬ vW u os (s.2.1 k) = vW u os (s.2.2 k) := fun q => hb_38 (by rw [q])
          refine V.iconst C (nI 1) c_1 dX10_holds_41 ?_
          exact V.zretS C R dX10_holds_42 (by first | exact Or.inl rfl | exact Or.inr rfl | exact bI01 _) ⟨by unfold hW; rw [show eqW u os s s.1 = false from Bool.eq_false_iff.mpr (fun q => e_ ((eqW_iff u os s s.1).mp q k hk8))]; rfl, rfl⟩
  refine V.bipush C (nI 10) b_10 dX10_holds_0 ?_
  refine V.iload_n C 1 rfl rfl dX10_holds_2 ?_
  refine V.iadd C dX10_holds_3 ?_
  rw [nI_add]
  refine V.istore_n C 2 dX10_holds_4 rfl (by decide) ?_
  refine V.iconst C (nI 0) c_0 dX10_holds_5 ?_
  refine V.istore_n C 3 dX10_holds_6 rfl (by decide) ?_
  refine V.lvs (lv' := [(0, Rf G 123), (1, .int (nI d)), (2, .int (nI (10 + d))), (3, .int (nI 0))]) rfl ?_
  exact loop (s.1 + 1) 0 (by omega) (by omega) rfl
theorem all_take {l : List Stm} {f : Stm → Bool} {k : Nat} (h : (l.take k).all f = false) : l.all f = false := by
  refine Bool.eq_false_iff.mpr (fun q => ?_)
  rw [List.all_eq_true] at q
  have : (l.take k).all f = true := List.all_eq_true.mpr (fun x hx => q x (List.mem_of_mem_take hx))
  rw [this] at h; cases h
set_option maxRecDepth 100000 in
set_option maxHeartbeats 4000000 in
theorem ct_M_isModel (G : Gl) (σ : SS) (P : Prob) (u : UF) (os : List Nat) (hP : FP (σ.2.1 124) P) (hwf : wfP P) (hU : RCm σ u) (hu : u.2.2 = true) (hO : RO σ os) : CI G mX10_isModel [Rf G 123] σ (fun r σ1 => r = bI (mW u os P.2.2) ∧ σ1 = σ) := by
  refine Ctr.of oX10_isModel (Nat.le_of_ble_eq_true rfl) ?_
  intro X C R hnm hz0
  have C : Cx G X cX10_isModel 3 RX10 3 69 0 0 := C
  have R : Cr G X (some .boolean) 0 0 _ := R
  show V G X 3 0 0 0 [(0, Rf G 123)] [] (wld G σ)
  have kk_123 := sk_123
  have kk_124 := sk_124
  have kk_131 := sk_131
  have kk_132 := sk_132
  have kk_133 := sk_133
  have kk_134 := sk_134
  have kk_135 := sk_135
  have l3_ := hwf.2.2.1
  have loop : ∀ (m k : Nat) (b : Bool), P.2.2.length < k + m → k ≤ P.2.2.length → b = (P.2.2.take k).all (hW u os) → V G X 3 0 0 4 [(0, Rf G 123), (1, .int (bI b)), (2, .int (nI k))] [] (wld G σ) := by
    intro m
    induction m with
    | zero =>
      intro k b hm hk he
      exact absurd hm (by omega)
    | succ m ih =>
      intro k b hm hk he
      refine V.iload_n C 2 rfl rfl dX10_isModel_4 ?_
      refine V.aload_n C 0 rfl rfl dX10_isModel_5 ?_
      refine V.getR C fX10_7 dX10_isModel_6 (by assumption) rfl ?_
      refine V.bipush C (nI 9) b_9 dX10_isModel_9 ?_
      refine V.ialdN C dX10_isModel_11 (by assumption) (by omega) ?_
      rw [hP.2.2.1]
      refine V.icmp_ge C 31 dX10_isModel_12 rfl (fun hb_12 => ?_) (fun hb_12 => ?_)
      · have hk8 : k = P.2.2.length := by have := (nI_leI (by omega) (by omega)).mp hb_12; omega
        refine V.iload_n C 1 rfl rfl dX10_isModel_31 ?_
        exact V.zretS C R dX10_isModel_32 (bI01 _) ⟨by unfold mW; rw [he, hk8, List.take_length], rfl⟩
      · have hk8 : k < P.2.2.length := Nat.lt_of_not_le (fun q => hb_12 (nI_le q (by omega)))
        obtain ⟨s, hs_⟩ : ∃ s, P.2.2[k]? = some s := ⟨_, List.getElem?_eq_getElem hk8⟩
        refine V.iload_n C 1 rfl rfl dX10_isModel_15 ?_
        refine V.if_eq C 31 dX10_isModel_16 rfl (fun hb_16 => ?_) (fun hb_16 => ?_)
        · have zb_ := bI_eq0 hb_16
          refine V.iload_n C 1 rfl rfl dX10_isModel_31 ?_
          exact V.zretS C R dX10_isModel_32 (bI01 _) ⟨by rw [zb_]; unfold mW; rw [show P.2.2.all (hW u os) = false from all_take (he.symm.trans zb_)], rfl⟩
        · have zb_ := bI_ne0 hb_16
          refine V.aload_n C 0 rfl rfl dX10_isModel_19 ?_
          refine V.iload_n C 2 rfl rfl dX10_isModel_20 ?_
          refine V.cVi C lX10_239 oX10_holds dX10_isModel_21 (ct_M_holds G σ P u os k s hP hwf hU hu hO hs_) (by assumption) rfl rfl (Nat.le_of_ble_eq_true rfl) ⟨Nat.le_of_ble_eq_true rfl, Nat.le_of_ble_eq_true rfl⟩ ⟨Nat.le_of_ble_eq_true rfl, Nat.le_of_ble_eq_true rfl⟩ (fun rr_21 σ21 pp_21 => ?_)
          obtain ⟨ee_21, ff_21⟩ := pp_21
          rw [ee_21, ff_21]
          refine V.istore_n C 1 dX10_isModel_24 rfl (by decide) ?_
          refine V.iinc C (nI (k + 1)) dX10_isModel_25 rfl (nI_1 k) (by decide) ?_
          refine V.goto C 4 dX10_isModel_28 rfl ?_
          refine V.lvs (lv' := [(0, Rf G 123), (1, .int (bI (hW u os s))), (2, .int (nI (k + 1)))]) rfl ?_
          exact ih (k + 1) _ (by omega) (by omega) (by rw [List.take_succ, hs_, List.all_append, ← he, zb_]; show _ = (true && (hW u os s && true)); rw [Bool.true_and, Bool.and_true])
  refine V.iconst C (nI 1) c_1 dX10_isModel_0 ?_
  refine V.istore_n C 1 dX10_isModel_1 rfl (by decide) ?_
  refine V.iconst C (nI 0) c_0 dX10_isModel_2 ?_
  refine V.istore_n C 2 dX10_isModel_3 rfl (by decide) ?_
  refine V.lvs (lv' := [(0, Rf G 123), (1, .int (bI true)), (2, .int (nI 0))]) rfl ?_
  exact loop (P.2.2.length + 1) 0 true (by omega) (by omega) rfl
