/-! Statements and problems: what the cells say of a list of statements. Classes.equate; Statements: move, copyFrom, drop, finish. -/
section
variable {G : Gl} {X : Cx0} {cc : ByteArray} {nL fr lo mc ms ce sl pc : Nat} {own : String} {lv : List (Nat × Value)} {st : List Value} {σ : SS}
theorem V.copyN (C : Cx G X cc nL own fr lo mc ms) {idx k0 k1 n0 n1 sp dp n : Nat} (h1 : Cond.methodLink own idx arraycopyName ∈ TB) (d : decode cc pc = .ok (.invokestatic idx, 3)) (hc0 : sk k0 = some (.inl (0, n0))) (hc1 : sk k1 = some (.inl (0, n1))) (g4 : sp + n ≤ n0) (g5 : dp + n ≤ n1) (hf : 1 ≤ fr) (hlo : (st.map fun v => v.category).sum + (nativeFrameWords "java/lang/System" "arraycopy" 5 + 11) ≤ lo)
    (k : V G X nL ce sl (pc + 3) lv st (wld G (sA σ k1 (va_cpy (σ.2.1 k0) (σ.2.1 k1) sp dp n)))) : V G X nL ce sl pc lv (.int (nI n) :: .int (nI dp) :: Rf G k1 :: .int (nI sp) :: Rf G k0 :: st) (wld G σ) := by
  have hn0 := sk_small hc0
  have hn1 := sk_small hc1
  refine V.copyS C h1 cpy_nat cpy_sta sys_ini d hc0 hc1 (nI_pos (by omega)) (nI_pos (by omega)) (nI_pos (by omega)) ?_ ?_ hf hlo ?_
  · rw [nI_clamp (by omega), nI_clamp (by omega)]; exact g4
  · rw [nI_clamp (by omega), nI_clamp (by omega)]; exact g5
  · rw [nI_clamp (by omega), nI_clamp (by omega), nI_clamp (by omega)]; exact k
end
def peB (n : Nat) (L : Nat → Nat) (pe : Int32) : Prop := ∀ k, 1 ≤ k → k < n → ((pe &&& shl32 (nI 1) (nI k) = 0) ↔ L k / 256 = L (k - 1) / 256)
def stAt (σ : SS) (o i : Nat) (s : Stm) : Prop := σ.2.1 (o + 1) i = nI s.1 ∧ (∀ k, k < s.1 → σ.2.1 (o + 2) ((i * 2 + 0) * 16 + k) = nI (cn (s.2.1 k))) ∧ (∀ k, k < s.1 → σ.2.1 (o + 2) ((i * 2 + 1) * 16 + k) = nI (cn (s.2.2 k))) ∧ peB s.1 s.2.1 (σ.2.1 (o + 3) (i * 2 + 0)) ∧ peB s.1 s.2.2 (σ.2.1 (o + 3) (i * 2 + 1))
def okS (s : Stm) : Prop := 1 ≤ s.1 ∧ s.1 ≤ 16 ∧ ∀ k, k < s.1 → okB (s.2.1 k) ∧ okB (s.2.2 k)
def RS (σ : SS) (o cap : Nat) (l : List Stm) : Prop := σ.1 o 0 = nI cap ∧ σ.1 o 1 = nI l.length ∧ l.length ≤ cap ∧ ∀ i s, l[i]? = some s → stAt σ o i s
def RP (σ : SS) (p : Nat) (P : Prob) : Prop := (∀ v, v < 8 → σ.2.1 (p + 1) v = nI (P.1 v)) ∧ RS σ (p + 2) 10 P.2.1 ∧ RS σ (p + 6) 3 P.2.2
theorem RS.fr {σ σ1 : SS} {o cap a b : Nat} {l : List Stm} (h : RS σ o cap l) (hF : Fr a b σ σ1) (hc : o + 4 ≤ a ∨ b ≤ o) : RS σ1 o cap l := by
  unfold RS stAt
  rw [hF.A (k := o + 1) (by omega), hF.A (k := o + 2) (by omega), hF.A (k := o + 3) (by omega), hF.F (k := o) (by omega)]
  exact h
theorem RP.fr {σ σ1 : SS} {p a b : Nat} {P : Prob} (h : RP σ p P) (hF : Fr a b σ σ1) (hc : p + 10 ≤ a ∨ b ≤ p) : RP σ1 p P :=
  ⟨by rw [hF.A (k := p + 1) (by omega)]; exact h.1, h.2.1.fr hF (by omega), h.2.2.fr hF (by omega)⟩
theorem RS.lt {σ : SS} {o cap i : Nat} {l : List Stm} {s : Stm} (h : RS σ o cap l) (hi : l[i]? = some s) : i < l.length := (List.getElem?_eq_some_iff.mp hi).1
set_option maxRecDepth 100000 in
set_option maxHeartbeats 4000000 in
theorem ct_Cl_equate (G : Gl) (σ : SS) (c o cap i : Nat) (u : UF) (l : List Stm) (s : Stm) (hC : ClA c) (hS : StA o cap) (hU : RCu σ c u) (hl : RS σ o cap l) (his : l[i]? = some s) (hok : okS s) (hoc : o + 4 ≤ c) : CV G mX0_equate [Rf G c, Rf G o, .int (nI i)] σ (fun σ1 => RCu σ1 c (ufStm u s) ∧ Fr c (c + 3) σ σ1) := by
  refine Ctr.of oX0_equate (Nat.le_of_ble_eq_true rfl) ?_
  intro X C R hnm hz0
  have C : Cx G X cX0_equate 4 RX0 3 68 0 0 := C
  have R : Cr G X none 0 0 _ := R
  show V G X 4 0 0 0 [(0, Rf G c), (1, Rf G o), (2, .int (nI i))] [] (wld G σ)
  obtain ⟨hc0, hc1, hc2⟩ := hC
  have hil := RS.lt hl his
  have ho := hS.1
  have hcap := hS.2.2.2.2
  have hlc := hl.2.2.1
  have hok1 := hok.1
  have hok2 := hok.2.1
  have loop : ∀ (m k : Nat) (σ1 : SS), s.1 < k + m → k ≤ s.1 → RCu σ1 c (ufTerms u s.2.1 s.2.2 k) → Fr c (c + 3) σ σ1 → V G X 4 0 0 2 [(0, Rf G c), (1, Rf G o), (2, .int (nI i)), (3, .int (nI k))] [] (wld G σ1) := by
    intro m
    induction m with
    | zero =>
      intro k σ1 hm hk hV hF
      exact absurd hm (by omega)
    | succ m ih =>
      intro k σ1 hm hk hV hF
      have hl1 := hl.fr hF (Or.inl hoc)
      have hst := hl1.2.2.2 i s his
      refine V.iload_n C 3 rfl rfl dX0_equate_2 ?_
      refine V.aload_n C 1 rfl rfl dX0_equate_3 ?_
      refine V.iload_n C 2 rfl rfl dX0_equate_4 ?_
      refine V.cVi C lX0_39 oX6_widthOf dX0_equate_5 (ct_St_widthOf G σ1 o cap l.length i hS hl1.2.1 hl1.2.2.1 (by omega)) (by assumption) rfl rfl (Nat.le_of_ble_eq_true rfl) ⟨Nat.le_of_ble_eq_true rfl, Nat.le_of_ble_eq_true rfl⟩ ⟨Nat.le_of_ble_eq_true rfl, Nat.le_of_ble_eq_true rfl⟩ (fun rr_5 σ5 pp_5 => ?_)
      obtain ⟨ee_5, ff_5⟩ := pp_5
      rw [ee_5, ff_5, if_pos hil, hst.1]
      refine V.icmp_ge C 35 dX0_equate_8 rfl (fun hb_8 => ?_) (fun hb_8 => ?_)
      · have hk8 : k = s.1 := by have := (nI_leI (by omega) (by omega)).mp hb_8; omega
        exact V.vretS C R dX0_equate_35 ⟨by unfold ufStm; rw [← hk8]; exact hV, hF⟩
      · have hk8 : k < s.1 := Nat.lt_of_not_le (fun q => hb_8 (nI_le q (by omega)))
        refine V.aload_n C 0 rfl rfl dX0_equate_11 ?_
        refine V.aload_n C 1 rfl rfl dX0_equate_12 ?_
        refine V.iload_n C 2 rfl rfl dX0_equate_13 ?_
        refine V.iconst C (nI 0) c_0 dX0_equate_14 ?_
        refine V.iload_n C 3 rfl rfl dX0_equate_15 ?_
        refine V.cVi C lX0_44 oX6_node dX0_equate_16 (ct_St_node G σ1 o cap i 0 k hS (by omega) (by omega) (by omega)) (by assumption) rfl rfl (Nat.le_of_ble_eq_true rfl) ⟨Nat.le_of_ble_eq_true rfl, Nat.le_of_ble_eq_true rfl⟩ ⟨Nat.le_of_ble_eq_true rfl, Nat.le_of_ble_eq_true rfl⟩ (fun rr_16 σ16 pp_16 => ?_)
        obtain ⟨ee_16, ff_16⟩ := pp_16
        rw [ee_16, ff_16, hst.2.1 k hk8]
        refine V.aload_n C 1 rfl rfl dX0_equate_19 ?_
        refine V.iload_n C 2 rfl rfl dX0_equate_20 ?_
        refine V.iconst C (nI 1) c_1 dX0_equate_21 ?_
        refine V.iload_n C 3 rfl rfl dX0_equate_22 ?_
        refine V.cVi C lX0_44 oX6_node dX0_equate_23 (ct_St_node G σ1 o cap i 1 k hS (by omega) (by omega) (by omega)) (by assumption) rfl rfl (Nat.le_of_ble_eq_true rfl) ⟨Nat.le_of_ble_eq_true rfl, Nat.le_of_ble_eq_true rfl⟩ ⟨Nat.le_of_ble_eq_true rfl, Nat.le_of_ble_eq_true rfl⟩ (fun rr_23 σ23 pp_23 => ?_)
        obtain ⟨ee_23, ff_23⟩ := pp_23
        rw [ee_23, ff_23, hst.2.2.1 k hk8]
        refine V.cVv C lX0_48 oX0_join dX0_equate_26 (ct_Cl_join G σ1 c (s.2.1 k) (s.2.2 k) (ufTerms u s.2.1 s.2.2 k) ⟨hc0, hc1, hc2⟩ hV (hok.2.2 k hk8).1 (hok.2.2 k hk8).2) (by assumption) rfl rfl (Nat.le_of_ble_eq_true rfl) ⟨Nat.le_of_ble_eq_true rfl, Nat.le_of_ble_eq_true rfl⟩ ⟨Nat.le_of_ble_eq_true rfl, Nat.le_of_ble_eq_true rfl⟩ (fun σ26 pp_26 => ?_)
        refine V.iinc C (nI (k + 1)) dX0_equate_29 rfl (nI_1 k) (by decide) ?_
        refine V.goto C 2 dX0_equate_32 rfl ?_
        refine V.lvs (lv' := [(0, Rf G c), (1, Rf G o), (2, .int (nI i)), (3, .int (nI (k + 1)))]) rfl ?_
        exact ih (k + 1) σ26 (by omega) (by omega) pp_26.1 (hF.trans pp_26.2)
  refine V.iconst C (nI 0) c_0 dX0_equate_0 ?_
  refine V.istore_n C 3 dX0_equate_1 rfl (by decide) ?_
  refine V.lvs (lv' := [(0, Rf G c), (1, Rf G o), (2, .int (nI i)), (3, .int (nI 0))]) rfl ?_
  exact loop (s.1 + 1) 0 σ (by omega) (by omega) hU (Fr.refl _ _ _)
/-- rows of another list over those of this one -/
def cpS (σ : SS) (o o2 f t m : Nat) : SS := sA (sA (sA σ (o + 1) (va_cpy (σ.2.1 (o2 + 1)) (σ.2.1 (o + 1)) f t m)) (o + 2) (va_cpy (σ.2.1 (o2 + 2)) (σ.2.1 (o + 2)) (f * 32) (t * 32) (m * 32))) (o + 3) (va_cpy (σ.2.1 (o2 + 3)) (σ.2.1 (o + 3)) (f * 2) (t * 2) (m * 2))
set_option maxRecDepth 100000 in
set_option maxHeartbeats 4000000 in
theorem ct_St_move (G : Gl) (σ : SS) (o cap o2 cap2 f t m : Nat) (hS : StA o cap) (hS2 : StA o2 cap2) (hd : o2 = o ∨ o + 4 ≤ o2 ∨ o2 + 4 ≤ o) (h1 : f + m ≤ cap2) (h2 : t + m ≤ cap) : CV G mX6_move [Rf G o, Rf G o2, .int (nI f), .int (nI t), .int (nI m)] σ (fun σ1 => σ1 = cpS σ o o2 f t m) := by
  refine Ctr.of oX6_move (Nat.le_of_ble_eq_true rfl) ?_
  intro X C R hnm hz0
  have C : Cx G X cX6_move 6 RX6 1 28 0 0 := C
  have R : Cr G X none 0 0 _ := R
  show V G X 6 0 0 0 [(0, Rf G o), (1, Rf G o2), (2, .int (nI f)), (3, .int (nI t)), (4, .int (nI m))] [] (wld G σ)
  obtain ⟨ha_0, ha_1, ha_2, ha_3, ha_4⟩ := hS
  obtain ⟨hz_0, hz_1, hz_2, hz_3, hz_4⟩ := hS2
  refine V.bipush C (nI 32) b_32 dX6_move_0 ?_
  refine V.istore C dX6_move_2 (by decide) ?_
  refine V.aload_n C 1 rfl rfl dX6_move_4 ?_
  refine V.getR C fX6_21 dX6_move_5 (by assumption) rfl ?_
  refine V.iload_n C 2 rfl rfl dX6_move_8 ?_
  refine V.aload_n C 0 rfl rfl dX6_move_9 ?_
  refine V.getR C fX6_21 dX6_move_10 (by assumption) rfl ?_
  refine V.iload_n C 3 rfl rfl dX6_move_13 ?_
  refine V.iload C rfl dX6_move_14 ?_
  refine V.copyN C lX6_62 dX6_move_16 (by assumption) (by assumption) (by omega) (by omega) (Nat.le_of_ble_eq_true rfl) (Nat.le_of_ble_eq_true rfl) ?_
  refine V.aload_n C 1 rfl rfl dX6_move_19 ?_
  refine V.getR C fX6_25 dX6_move_20 (by assumption) rfl ?_
  refine V.iload_n C 2 rfl rfl dX6_move_23 ?_
  refine V.iload C rfl dX6_move_24 ?_
  refine V.imul C dX6_move_26 ?_
  rw [nI_mul]
  refine V.aload_n C 0 rfl rfl dX6_move_27 ?_
  refine V.getR C fX6_25 dX6_move_28 (by assumption) rfl ?_
  refine V.iload_n C 3 rfl rfl dX6_move_31 ?_
  refine V.iload C rfl dX6_move_32 ?_
  refine V.imul C dX6_move_34 ?_
  rw [nI_mul]
  refine V.iload C rfl dX6_move_35 ?_
  refine V.iload C rfl dX6_move_37 ?_
  refine V.imul C dX6_move_39 ?_
  rw [nI_mul]
  refine V.copyN C lX6_62 dX6_move_40 (by assumption) (by assumption) (by omega) (by omega) (Nat.le_of_ble_eq_true rfl) (Nat.le_of_ble_eq_true rfl) ?_
  refine V.aload_n C 1 rfl rfl dX6_move_43 ?_
  refine V.getR C fX6_28 dX6_move_44 (by assumption) rfl ?_
  refine V.iload_n C 2 rfl rfl dX6_move_47 ?_
  refine V.iconst C (nI 2) c_2 dX6_move_48 ?_
  refine V.imul C dX6_move_49 ?_
  rw [nI_mul]
  refine V.aload_n C 0 rfl rfl dX6_move_50 ?_
  refine V.getR C fX6_28 dX6_move_51 (by assumption) rfl ?_
  refine V.iload_n C 3 rfl rfl dX6_move_54 ?_
  refine V.iconst C (nI 2) c_2 dX6_move_55 ?_
  refine V.imul C dX6_move_56 ?_
  rw [nI_mul]
  refine V.iload C rfl dX6_move_57 ?_
  refine V.iconst C (nI 2) c_2 dX6_move_59 ?_
  refine V.imul C dX6_move_60 ?_
  rw [nI_mul]
  refine V.copyN C lX6_62 dX6_move_61 (by assumption) (by assumption) (by omega) (by omega) (Nat.le_of_ble_eq_true rfl) (Nat.le_of_ble_eq_true rfl) ?_
  exact V.vretS C R dX6_move_64 (by
  unfold cpS
  rw [sA_ne _ _ (show o2 + 2 ≠ o + 1 by omega), sA_ne _ _ (show o + 2 ≠ o + 1 by omega), sA_ne _ _ (show o2 + 3 ≠ o + 2 by omega), sA_ne _ _ (show o2 + 3 ≠ o + 1 by omega), sA_ne _ _ (show o + 3 ≠ o + 2 by omega), sA_ne _ _ (show o + 3 ≠ o + 1 by omega)])
