/-! Term.addRange, node, partBeginsAt; Statements.putTerm, finish. -/
theorem hop_t {zs : List Nat} {x pt : Nat} (hx : x / 256 = pt) (h : newP zs pt) : true = begB (zs ++ [x]) zs.length := by
  unfold begB
  symm
  rw [decide_eq_true_eq]
  rcases Nat.eq_zero_or_pos zs.length with q | q
  · exact Or.inl q
  · right
    rw [getD_app, getD_app, if_neg (by omega), if_pos rfl, if_pos (by omega), hx]
    rcases h with h | h
    · omega
    · exact fun e => h e.symm
theorem hop_f {zs : List Nat} {x pt : Nat} (hx : x / 256 = pt) (h0 : 0 < zs.length) (h : zs.getD (zs.length - 1) 0 / 256 = pt) : false = begB (zs ++ [x]) zs.length := by
  unfold begB
  symm
  rw [decide_eq_false_iff_not]
  rintro (q | q)
  · omega
  · apply q
    rw [getD_app, getD_app, if_neg (by omega), if_pos rfl, if_pos (by omega), hx, h]
theorem i_dec (x : Int32) : x + Int32.ofInt (-1) = x - nI 1 := by
  rw [show Int32.ofInt (-1) = -(nI 1) by decide]; exact (Int32.sub_eq_add_neg x (nI 1)).symm
theorem last_app (zs : List Nat) (x : Nat) : (zs ++ [x]).getD ((zs ++ [x]).length - 1) 0 = x := by
  rw [List.length_append]
  show (zs ++ [x]).getD (zs.length + 1 - 1) 0 = x
  rw [Nat.add_sub_cancel, getD_app, if_neg (by omega), if_pos rfl]
set_option maxRecDepth 100000 in
set_option maxHeartbeats 4000000 in
theorem ct_Te_range (G : Gl) (σ : SS) (bs : List Nat) (v pt h l : Nat) (hR : RTm σ bs false) (hv : v < 8) (hh : h < 16) (hl : l ≤ h) (hb : bs.length < 2 ^ 28) (hnew : newP bs pt) : CV G mX7_addRange [Rf G 7, .int (nI (16 * v + h)), .int (nI (16 * v + l))] σ (fun σ1 => RTm σ1 (bs ++ rngB v pt h (h + 1 - l)) false ∧ Fr 7 9 σ σ1) := by
  refine Ctr.of oX7_addRange (Nat.le_of_ble_eq_true rfl) ?_
  intro X C R hnm hz0
  have C : Cx G X cX7_addRange 4 RX7 1 21 0 0 := C
  have R : Cr G X none 0 0 _ := R
  show V G X 4 0 0 0 [(0, Rf G 7), (1, .int (nI (16 * v + h))), (2, .int (nI (16 * v + l)))] [] (wld G σ)
  have kk_7 := sk_7
  have kk_8 := sk_8
  have loop : ∀ (mm k : Nat) (zs : List Nat) (op : Bool) (σ2 : SS), k < mm → k ≤ h + 1 - l → zs ++ rngB v pt (l + k - 1) k = bs ++ rngB v pt h (h + 1 - l) → RTm σ2 zs op → (op = true → newP zs pt ∧ k = h + 1 - l) → (op = false → 0 < zs.length ∧ zs.getD (zs.length - 1) 0 / 256 = pt) → Fr 7 9 σ σ2 → V G X 4 0 0 6 [(0, Rf G 7), (1, .int (nI (16 * v + h))), (2, .int (nI (16 * v + l))), (3, .int (nI (16 * v + l + k) - nI 1))] [] (wld G σ2) := by
    intro m
    induction m with
    | zero =>
      intro k zs op σ2 hm hk he hRz h1 h2 hF
      exact absurd hm (by omega)
    | succ m ih =>
      intro k zs op σ2 hm hk he hRz h1 h2 hF
      refine V.iload_n C 3 rfl rfl dX7_addRange_6 ?_
      refine V.iload_n C 2 rfl rfl dX7_addRange_7 ?_
      refine V.icmp_lt C 22 dX7_addRange_8 rfl (fun hb_8 => ?_) (fun hb_8 => ?_)
      · have zk_ : k = 0 := by
          rcases Nat.eq_zero_or_pos k with q | q
          · exact q
          · rw [nI_sub (by omega)] at hb_8; have := (nI_ltI (by omega) (by omega)).mp hb_8; omega
        exact V.vretS C R dX7_addRange_22 (by
  subst zk_
  have he_ : zs = bs ++ rngB v pt h (h + 1 - l) := by rw [← he]; simp [rngB]
  cases hq : op with
  | true => exact absurd (h1 hq).2 (by omega)
  | false => rw [hq] at hRz; exact ⟨by rw [← he_]; exact hRz, hF⟩)
      · have zk_ : 0 < k := by
          rcases Nat.eq_zero_or_pos k with q | q
          · exact absurd (by rw [q, Nat.add_zero]; exact nI_pred_lt (by omega)) hb_8
          · exact q
        obtain ⟨k1, rfl⟩ : ∃ k1, k = k1 + 1 := ⟨k - 1, by omega⟩
        have hx_ : (16 + 16 * v + (l + k1) + 256 * pt) / 256 = pt := by omega
        have hlz_ : zs.length + (k1 + 1) = bs.length + (h + 1 - l) := by
          have := congrArg List.length he
          rw [List.length_append, List.length_append, rngB_len, rngB_len] at this; exact this
        have hop_ : zs.length < 16 → op = begB (zs ++ [16 + 16 * v + (l + k1) + 256 * pt]) zs.length := fun _ => by
          cases hq : op with
          | true => exact hop_t hx_ (h1 hq).1
          | false => exact hop_f hx_ (h2 hq).1 (h2 hq).2
        rw [show nI (16 * v + l + (k1 + 1)) - nI 1 = nI (cn (16 + 16 * v + (l + k1) + 256 * pt)) by rw [nI_sub (by omega), cn_var hv (by omega)]; congr 1; omega]
        refine V.aload_n C 0 rfl rfl dX7_addRange_11 ?_
        refine V.iload_n C 3 rfl rfl dX7_addRange_12 ?_
        refine V.cVv C lX7_25 oX7_add dX7_addRange_13 (ct_Te_add G σ2 zs (16 + 16 * v + (l + k1) + 256 * pt) op hRz (by omega) hop_) (by assumption) rfl rfl (Nat.le_of_ble_eq_true rfl) ⟨Nat.le_of_ble_eq_true rfl, Nat.le_of_ble_eq_true rfl⟩ ⟨Nat.le_of_ble_eq_true rfl, Nat.le_of_ble_eq_true rfl⟩ (fun σ13 pp_13 => ?_)
        refine V.iinc C (nI (16 * v + l + k1) - nI 1) dX7_addRange_16 rfl (by rw [cn_var hv (by omega), show 16 * v + (l + k1) = 16 * v + l + k1 by omega]; exact i_dec _) (by decide) ?_
        refine V.goto C 6 dX7_addRange_19 rfl ?_
        refine V.lvs (lv' := [(0, Rf G 7), (1, .int (nI (16 * v + h))), (2, .int (nI (16 * v + l))), (3, .int (nI (16 * v + l + k1) - nI 1))]) rfl ?_
        refine ih k1 (zs ++ [16 + 16 * v + (l + k1) + 256 * pt]) false σ13 (by omega) (by omega) ?_ pp_13.1 (fun h => absurd h (by decide)) (fun _ => ⟨by simp, by rw [last_app]; exact hx_⟩) (hF.trans pp_13.2)
        rw [← he, List.append_assoc]
        show zs ++ ((16 + 16 * v + (l + k1) + 256 * pt) :: rngB v pt (l + k1 - 1) k1) = zs ++ rngB v pt (l + (k1 + 1) - 1) (k1 + 1)
        rw [show l + (k1 + 1) - 1 = l + k1 by omega]; rfl
  refine V.aload_n C 0 rfl rfl dX7_addRange_0 ?_
  refine V.cVv C lX7_22 oX7_beginPart dX7_addRange_1 (ct_Te_begin G σ bs hR) (by assumption) rfl rfl (Nat.le_of_ble_eq_true rfl) ⟨Nat.le_of_ble_eq_true rfl, Nat.le_of_ble_eq_true rfl⟩ ⟨Nat.le_of_ble_eq_true rfl, Nat.le_of_ble_eq_true rfl⟩ (fun σ9 pp_1 => ?_)
  obtain ⟨r1_, f1_⟩ := pp_1
  refine V.iload_n C 1 rfl rfl dX7_addRange_4 ?_
  refine V.istore_n C 3 dX7_addRange_5 rfl (by decide) ?_
  refine V.lvs (lv' := [(0, Rf G 7), (1, .int (nI (16 * v + h))), (2, .int (nI (16 * v + l))), (3, .int (nI (16 * v + l + (h + 1 - l)) - nI 1))]) (by rw [show nI (16 * v + l + (h + 1 - l)) - nI 1 = nI (16 * v + h) by rw [nI_sub (by omega)]; congr 1; omega]; rfl) ?_
  exact loop (h + 1 - l + 1) (h + 1 - l) bs true σ9 (by omega) (by omega) (by rw [show l + (h + 1 - l) - 1 = h by omega]) r1_ (fun _ => ⟨hnew, rfl⟩) (fun h => absurd h (by decide)) f1_
set_option maxRecDepth 100000 in
set_option maxHeartbeats 4000000 in
theorem ct_Te_node (G : Gl) (σ : SS) (bs : List Nat) (op : Bool) (k : Nat) (hR : RTm σ bs op) (hk : k < bs.length) (hb : bs.length ≤ 16) : CI G mX7_node [Rf G 7, .int (nI k)] σ (fun r σ1 => r = nI (cn (bs.getD (bs.length - 1 - k) 0)) ∧ σ1 = σ) := by
  refine Ctr.of oX7_node (Nat.le_of_ble_eq_true rfl) ?_
  intro X C R hnm hz0
  have C : Cx G X cX7_node 3 RX7 0 0 0 0 := C
  have R : Cr G X (some .int) 0 0 _ := R
  show V G X 3 0 0 0 [(0, Rf G 7), (1, .int (nI k))] [] (wld G σ)
  have kk_7 := sk_7
  have kk_8 := sk_8
  refine V.aload_n C 0 rfl rfl dX7_node_0 ?_
  refine V.getI C fX7_19 dX7_node_1 (by assumption) rfl ?_
  rw [hR.1]
  refine V.iconst C (nI 1) c_1 dX7_node_4 ?_
  refine V.isub C dX7_node_5 ?_
  refine V.iload_n C 1 rfl rfl dX7_node_6 ?_
  refine V.isub C dX7_node_7 ?_
  rw [show nI bs.length - nI 1 - nI k = nI (bs.length - 1 - k) by rw [nI_sub (by omega), nI_sub (by omega)]]
  refine V.istore_n C 2 dX7_node_8 rfl (by decide) ?_
  refine V.iload_n C 2 rfl rfl dX7_node_9 ?_
  refine V.if_lt C 28 dX7_node_10 rfl (fun hb_10 => ?_) (fun hb_10 => ?_)
  · exact absurd hb_10 (nI_pos (by omega))
  · refine V.iload_n C 2 rfl rfl dX7_node_13 ?_
    refine V.bipush C (nI 16) b_16 dX7_node_14 ?_
    refine V.icmp_ge C 28 dX7_node_16 rfl (fun hb_16 => ?_) (fun hb_16 => ?_)
    · exact absurd ((nI_leI (by decide) (by omega)).mp hb_16) (by omega)
    · refine V.aload_n C 0 rfl rfl dX7_node_19 ?_
      refine V.getR C fX7_9 dX7_node_20 (by assumption) rfl ?_
      refine V.iload_n C 2 rfl rfl dX7_node_23 ?_
      refine V.ialdN C dX7_node_24 (by assumption) (by omega) ?_
      rw [hR.2.2.1 _ (by omega) (by omega)]
      refine V.goto C 31 dX7_node_25 rfl ?_
      exact V.iretS C R dX7_node_31 ⟨rfl, rfl⟩
set_option maxRecDepth 100000 in
set_option maxHeartbeats 4000000 in
theorem ct_Te_pbegins (G : Gl) (σ : SS) (bs : List Nat) (op : Bool) (k : Nat) (hR : RTm σ bs op) (hk : k < bs.length) (hb : bs.length ≤ 16) : CI G mX7_partBeginsAt [Rf G 7, .int (nI k)] σ (fun r σ1 => r = bI (begB bs (bs.length - 1 - k)) ∧ σ1 = σ) := by
  refine Ctr.of oX7_partBeginsAt (Nat.le_of_ble_eq_true rfl) ?_
  intro X C R hnm hz0
  have C : Cx G X cX7_partBeginsAt 3 RX7 0 0 0 0 := C
  have R : Cr G X (some .boolean) 0 0 _ := R
  show V G X 3 0 0 0 [(0, Rf G 7), (1, .int (nI k))] [] (wld G σ)
  have kk_7 := sk_7
  have kk_8 := sk_8
  refine V.aload_n C 0 rfl rfl dX7_partBeginsAt_0 ?_
  refine V.getI C fX7_19 dX7_partBeginsAt_1 (by assumption) rfl ?_
  rw [hR.1]
  refine V.iconst C (nI 1) c_1 dX7_partBeginsAt_4 ?_
  refine V.isub C dX7_partBeginsAt_5 ?_
  refine V.iload_n C 1 rfl rfl dX7_partBeginsAt_6 ?_
  refine V.isub C dX7_partBeginsAt_7 ?_
  rw [show nI bs.length - nI 1 - nI k = nI (bs.length - 1 - k) by rw [nI_sub (by omega), nI_sub (by omega)]]
  have hbt_ := hR.2.2.2 (bs.length - 1 - k) (by omega)
  rw [if_pos (by omega)] at hbt_
  refine V.istore_n C 2 dX7_partBeginsAt_8 rfl (by decide) ?_
  refine V.iload_n C 2 rfl rfl dX7_partBeginsAt_9 ?_
  refine V.if_lt C 34 dX7_partBeginsAt_10 rfl (fun hb_10 => ?_) (fun hb_10 => ?_)
  · exact absurd hb_10 (nI_pos (by omega))
  · refine V.iload_n C 2 rfl rfl dX7_partBeginsAt_13 ?_
    refine V.bipush C (nI 16) b_16 dX7_partBeginsAt_14 ?_
    refine V.icmp_ge C 34 dX7_partBeginsAt_16 rfl (fun hb_16 => ?_) (fun hb_16 => ?_)
    · exact absurd ((nI_leI (by decide) (by omega)).mp hb_16) (by omega)
    · refine V.aload_n C 0 rfl rfl dX7_partBeginsAt_19 ?_
      refine V.getI C fX7_15 dX7_partBeginsAt_20 (by assumption) rfl ?_
      refine V.iconst C (nI 1) c_1 dX7_partBeginsAt_23 ?_
      refine V.iload_n C 2 rfl rfl dX7_partBeginsAt_24 ?_
      refine V.ishl C dX7_partBeginsAt_25 ?_
      refine V.iand C dX7_partBeginsAt_26 ?_
      refine V.if_eq C 34 dX7_partBeginsAt_27 rfl (fun hb_27 => ?_) (fun hb_27 => ?_)
      · have z_ : begB bs (bs.length - 1 - k) = false := hbt_.symm.trans ((bt_test (by omega)).mp hb_27)
        refine V.iconst C (nI 0) c_0 dX7_partBeginsAt_34 ?_
        exact V.zretS C R dX7_partBeginsAt_35 (by first | exact Or.inl rfl | exact Or.inr rfl | exact bI01 _) ⟨by rw [z_]; rfl, rfl⟩
      · have z_ : begB bs (bs.length - 1 - k) = true := by
          cases hq : begB bs (bs.length - 1 - k) with
          | true => rfl
          | false => exact absurd ((bt_test (by omega)).mpr (hbt_.trans hq)) hb_27
        refine V.iconst C (nI 1) c_1 dX7_partBeginsAt_30 ?_
        refine V.goto C 35 dX7_partBeginsAt_31 rfl ?_
        exact V.zretS C R dX7_partBeginsAt_35 (by first | exact Or.inl rfl | exact Or.inr rfl | exact bI01 _) ⟨by rw [z_]; rfl, rfl⟩
/-- the row of a term, the least significant bit first -/
def rowT (bs : List Nat) : Nat → Nat := fun k => bs.getD (bs.length - 1 - k) 0
/-- a term that stands in row r of a list at o -/
def rowAt (σ : SS) (o r : Nat) (bs : List Nat) : Prop := (∀ k, k < bs.length → σ.2.1 (o + 2) (r * 16 + k) = nI (cn (rowT bs k))) ∧ peB bs.length (rowT bs) (σ.2.1 (o + 3) r)
theorem beg_row {bs : List Nat} {k : Nat} (h1 : 1 ≤ k) (h2 : k < bs.length) : begB bs (bs.length - 1 - (k - 1)) = !sameP (rowT bs) k := by
  unfold begB sameP rowT
  rw [show bs.length - 1 - (k - 1) = bs.length - k by omega, show bs.length - k - 1 = bs.length - 1 - k by omega]
  have e : ¬ bs.length - k = 0 := by omega
  by_cases q : bs.getD (bs.length - k) 0 / 256 = bs.getD (bs.length - 1 - k) 0 / 256
  · rw [decide_eq_false (fun h => h.elim e (fun h => h q)), decide_eq_true q.symm]; rfl
  · rw [decide_eq_true (Or.inr q), decide_eq_false (fun h => q h.symm)]; rfl
set_option maxRecDepth 100000 in
set_option maxHeartbeats 4000000 in
theorem ct_St_putTerm (G : Gl) (σ : SS) (o cap c d : Nat) (bs : List Nat) (hS : StA o cap) (h0 : σ.1 o 0 = nI cap) (hc : σ.1 o 1 = nI c) (hcc : c < cap) (hd : d < 2) (hR : RTm σ bs false) (hb : bs.length ≤ 16) (ho9 : 9 ≤ o) : CV G mX6_putTerm [Rf G o, .int (nI d), Rf G 7] σ (fun σ1 => rowAt σ1 o (c * 2 + d) bs ∧ Fr (o + 2) (o + 4) σ σ1 ∧ (∀ j, (j < (c * 2 + d) * 16 ∨ (c * 2 + d) * 16 + 16 ≤ j) → σ1.2.1 (o + 2) j = σ.2.1 (o + 2) j) ∧ (∀ j, j ≠ c * 2 + d → σ1.2.1 (o + 3) j = σ.2.1 (o + 3) j)) := by
  refine Ctr.of oX6_putTerm (Nat.le_of_ble_eq_true rfl) ?_
  intro X C R hnm hz0
  have C : Cx G X cX6_putTerm 5 RX6 1 22 0 0 := C
  have R : Cr G X none 0 0 _ := R
  show V G X 5 0 0 0 [(0, Rf G o), (1, .int (nI d)), (2, Rf G 7)] [] (wld G σ)
  obtain ⟨ho, h1, h2, h3, hcap⟩ := id hS
  have kk_7 := sk_7
  have loop : ∀ (m k : Nat) (σ1 : SS), bs.length < k + m → k ≤ bs.length → (∀ j, j < k → σ1.2.1 (o + 2) ((c * 2 + d) * 16 + j) = nI (cn (rowT bs j))) → (∀ j, 1 ≤ j → j < k → bt (σ1.2.1 (o + 3) (c * 2 + d)) j = !sameP (rowT bs) j) → (∀ j, k ≤ j → j < 32 → bt (σ1.2.1 (o + 3) (c * 2 + d)) j = false) → Fr (o + 2) (o + 4) σ σ1 → (∀ j, (j < (c * 2 + d) * 16 ∨ (c * 2 + d) * 16 + 16 ≤ j) → σ1.2.1 (o + 2) j = σ.2.1 (o + 2) j) → (∀ j, j ≠ c * 2 + d → σ1.2.1 (o + 3) j = σ.2.1 (o + 3) j) → V G X 5 0 0 36 [(0, Rf G o), (1, .int (nI d)), (2, Rf G 7), (3, .int (nI (c * 2 + d))), (4, .int (nI k))] [] (wld G σ1) := by
    intro m
    induction m with
    | zero =>
      intro k σ1 hm hk hn hp ho2 hF hold1 hold2
      exact absurd hm (by omega)
    | succ m ih =>
      intro k σ1 hm hk hn hp ho2 hF hold1 hold2
      have hR1 := hR.fr hF (by omega)
      refine V.iload C rfl dX6_putTerm_36 ?_
      refine V.aload_n C 2 rfl rfl dX6_putTerm_38 ?_
      refine V.cVi C lX6_42 oX7_bitCount dX6_putTerm_39 (ct_Te_bitCount G σ1 bs false hR1) (by assumption) rfl rfl (Nat.le_of_ble_eq_true rfl) ⟨Nat.le_of_ble_eq_true rfl, Nat.le_of_ble_eq_true rfl⟩ ⟨Nat.le_of_ble_eq_true rfl, Nat.le_of_ble_eq_true rfl⟩ (fun rr_39 σ39 pp_39 => ?_)
      obtain ⟨ee_39, ff_39⟩ := pp_39
      rw [ee_39, ff_39]
      refine V.icmp_ge C 98 dX6_putTerm_42 rfl (fun hb_42 => ?_) (fun hb_42 => ?_)
      · have hk8 : k = bs.length := by have := (nI_leI (by omega) (by omega)).mp hb_42; omega
        exact V.vretS C R dX6_putTerm_98 ⟨⟨fun k hk8_ => hn k (by omega), fun k hk1_ hk2_ => by
    rw [bt_test (by omega), hp k hk1_ (by omega)]
    unfold sameP; simp⟩, hF, hold1, hold2⟩
      · have hk8 : k < bs.length := Nat.lt_of_not_le (fun q => hb_42 (nI_le q (by omega)))
        refine V.aload_n C 0 rfl rfl dX6_putTerm_45 ?_
        refine V.getR C fX6_25 dX6_putTerm_46 (by assumption) rfl ?_
        refine V.iload_n C 3 rfl rfl dX6_putTerm_49 ?_
        refine V.bipush C (nI 16) b_16 dX6_putTerm_50 ?_
        refine V.imul C dX6_putTerm_52 ?_
        refine V.iload C rfl dX6_putTerm_53 ?_
        refine V.iadd C dX6_putTerm_55 ?_
        refine V.aload_n C 2 rfl rfl dX6_putTerm_56 ?_
        refine V.iload C rfl dX6_putTerm_57 ?_
        refine V.cVi C lX6_48 oX7_node dX6_putTerm_59 (ct_Te_node G σ1 bs false k hR1 hk8 hb) (by assumption) rfl rfl (Nat.le_of_ble_eq_true rfl) ⟨Nat.le_of_ble_eq_true rfl, Nat.le_of_ble_eq_true rfl⟩ ⟨Nat.le_of_ble_eq_true rfl, Nat.le_of_ble_eq_true rfl⟩ (fun rr_59 σ59 pp_59 => ?_)
        obtain ⟨ee_59, ff_59⟩ := pp_59
        rw [ee_59, ff_59]
        rw [nI_mul, nI_add]
        refine V.iastN C dX6_putTerm_62 (by assumption) (by omega) ?_
        have hF9 : Fr (o + 2) (o + 4) σ1 (sA σ1 (o + 2) (va_up (σ1.2.1 (o + 2)) ((c * 2 + d) * 16 + k) (nI (cn (bs.getD (bs.length - 1 - k) 0))))) := (Fr.refl _ _ _).sA _ (by omega) (by omega)
        refine V.iload C rfl dX6_putTerm_63 ?_
        refine V.if_le C 92 dX6_putTerm_65 rfl (fun hb_65 => ?_) (fun hb_65 => ?_)
        · have zk_ : k = 0 := by have := (nI_leI (by omega) (by decide)).mp (show nI k ≤ nI 0 from hb_65); omega
          refine V.iinc C (nI (k + 1)) dX6_putTerm_92 rfl (nI_1 k) (by decide) ?_
          refine V.goto C 36 dX6_putTerm_95 rfl ?_
          refine V.lvs (lv' := [(0, Rf G o), (1, .int (nI d)), (2, Rf G 7), (3, .int (nI (c * 2 + d))), (4, .int (nI (k + 1)))]) rfl ?_
          refine ih (k + 1) _ (by omega) (by omega) (fun j hj => ?_) (fun j hj1 hj2 => ?_) (fun j hj1 hj2 => ?_) (hF.sA _ (by omega) (by omega)) (fun j hj => ?_) (fun j hj => ?_)
          · rw [sA_A]
            by_cases e_ : j = k
            · rw [e_, up_eq]; rfl
            · rw [up_ne _ _ (by omega)]; exact hn j (by omega)
          · rw [sA_ne _ _ (show o + 3 ≠ o + 2 by omega)]
            by_cases e_ : j = k
            · exact absurd hj1 (by omega)
            · exact hp j hj1 (by omega)
          · rw [sA_ne _ _ (show o + 3 ≠ o + 2 by omega)]; exact ho2 j (by omega) hj2
          · rw [sA_A, up_ne _ _ (by omega)]; exact hold1 j hj
          · rw [sA_ne _ _ (show o + 3 ≠ o + 2 by omega)]; exact hold2 j hj
        · have zk_ : 0 < k := Nat.pos_of_ne_zero (fun q => hb_65 (by rw [q]; decide))
          refine V.aload_n C 2 rfl rfl dX6_putTerm_68 ?_
          refine V.iload C rfl dX6_putTerm_69 ?_
          refine V.iconst C (nI 1) c_1 dX6_putTerm_71 ?_
          refine V.isub C dX6_putTerm_72 ?_
          rw [show nI k - nI 1 = nI (k - 1) from nI_sub (by omega)]
          refine V.cVi C lX6_52 oX7_partBeginsAt dX6_putTerm_73 (ct_Te_pbegins G _ bs false (k - 1) (hR1.fr hF9 (by omega)) (by omega) hb) (by assumption) rfl rfl (Nat.le_of_ble_eq_true rfl) ⟨Nat.le_of_ble_eq_true rfl, Nat.le_of_ble_eq_true rfl⟩ ⟨Nat.le_of_ble_eq_true rfl, Nat.le_of_ble_eq_true rfl⟩ (fun rr_73 σ73 pp_73 => ?_)
          obtain ⟨ee_73, ff_73⟩ := pp_73
          rw [ee_73, ff_73, beg_row (by omega) hk8]
          refine V.if_eq C 92 dX6_putTerm_76 rfl (fun hb_76 => ?_) (fun hb_76 => ?_)
          · have zs_ : sameP (rowT bs) k = true := by simpa using bI_eq0 hb_76
            refine V.iinc C (nI (k + 1)) dX6_putTerm_92 rfl (nI_1 k) (by decide) ?_
            refine V.goto C 36 dX6_putTerm_95 rfl ?_
            refine V.lvs (lv' := [(0, Rf G o), (1, .int (nI d)), (2, Rf G 7), (3, .int (nI (c * 2 + d))), (4, .int (nI (k + 1)))]) rfl ?_
            refine ih (k + 1) _ (by omega) (by omega) (fun j hj => ?_) (fun j hj1 hj2 => ?_) (fun j hj1 hj2 => ?_) (hF.sA _ (by omega) (by omega)) (fun j hj => ?_) (fun j hj => ?_)
            · rw [sA_A]
              by_cases e_ : j = k
              · rw [e_, up_eq]; rfl
              · rw [up_ne _ _ (by omega)]; exact hn j (by omega)
            · rw [sA_ne _ _ (show o + 3 ≠ o + 2 by omega)]
              by_cases e_ : j = k
              · rw [e_, zs_, ho2 k (Nat.le_refl _) (by omega)]; rfl
              · exact hp j hj1 (by omega)
            · rw [sA_ne _ _ (show o + 3 ≠ o + 2 by omega)]; exact ho2 j (by omega) hj2
            · rw [sA_A, up_ne _ _ (by omega)]; exact hold1 j hj
            · rw [sA_ne _ _ (show o + 3 ≠ o + 2 by omega)]; exact hold2 j hj
          · have zs_ : sameP (rowT bs) k = false := by simpa using bI_ne0 hb_76
            refine V.aload_n C 0 rfl rfl dX6_putTerm_79 ?_
            refine V.getR C fX6_28 dX6_putTerm_80 (by assumption) rfl ?_
            refine V.iload_n C 3 rfl rfl dX6_putTerm_83 ?_
            refine V.dup2 C rfl rfl dX6_putTerm_84 ?_
            refine V.ialdN C dX6_putTerm_85 (by assumption) (by omega) ?_
            refine V.iconst C (nI 1) c_1 dX6_putTerm_86 ?_
            refine V.iload C rfl dX6_putTerm_87 ?_
            refine V.ishl C dX6_putTerm_89 ?_
            refine V.ior C dX6_putTerm_90 ?_
            refine V.iastN C dX6_putTerm_91 (by assumption) (by omega) ?_
            refine V.iinc C (nI (k + 1)) dX6_putTerm_92 rfl (nI_1 k) (by decide) ?_
            refine V.goto C 36 dX6_putTerm_95 rfl ?_
            refine V.lvs (lv' := [(0, Rf G o), (1, .int (nI d)), (2, Rf G 7), (3, .int (nI (c * 2 + d))), (4, .int (nI (k + 1)))]) rfl ?_
            refine ih (k + 1) _ (by omega) (by omega) (fun j hj => ?_) (fun j hj1 hj2 => ?_) (fun j hj1 hj2 => ?_) ((hF.sA _ (by omega) (by omega)).sA _ (by omega) (by omega)) (fun j hj => ?_) (fun j hj => ?_)
            · rw [sA_ne _ _ (show o + 2 ≠ o + 3 by omega), sA_A]
              by_cases e_ : j = k
              · rw [e_, up_eq]; rfl
              · rw [up_ne _ _ (by omega)]; exact hn j (by omega)
            · rw [sA_A, up_eq, sA_ne _ _ (show o + 3 ≠ o + 2 by omega), bt_or (by omega) (by omega)]
              by_cases e_ : j = k
              · rw [e_, zs_]; simp
              · rw [hp j hj1 (by omega)]; simp [e_]
            · rw [sA_A, up_eq, sA_ne _ _ (show o + 3 ≠ o + 2 by omega), bt_or (by omega) (by omega), ho2 j (by omega) hj2]; simp; omega
            · rw [sA_ne _ _ (show o + 2 ≠ o + 3 by omega), sA_A, up_ne _ _ (by omega)]; exact hold1 j hj
            · rw [sA_A, up_ne _ _ hj, sA_ne _ _ (show o + 3 ≠ o + 2 by omega)]; exact hold2 j hj
  refine V.aload_n C 0 rfl rfl dX6_putTerm_0 ?_
  refine V.cVi C lX6_38 oX6_isFull dX6_putTerm_1 (ct_St_isFull G σ o cap hS) (by assumption) rfl rfl (Nat.le_of_ble_eq_true rfl) ⟨Nat.le_of_ble_eq_true rfl, Nat.le_of_ble_eq_true rfl⟩ ⟨Nat.le_of_ble_eq_true rfl, Nat.le_of_ble_eq_true rfl⟩ (fun rr_1 σ1 pp_1 => ?_)
  obtain ⟨ee_1, ff_1⟩ := pp_1
  rw [ee_1, ff_1]
  refine V.if_ne C 16 dX6_putTerm_4 rfl (fun hb_4 => ?_) (fun hb_4 => ?_)
  · exact absurd (bI_ne0 hb_4) (by rw [hc, h0, decide_eq_false (fun q => q (nI_lt hcc (by omega)))]; decide)
  · refine V.aload_n C 2 rfl rfl dX6_putTerm_7 ?_
    refine V.cVi C lX6_42 oX7_bitCount dX6_putTerm_8 (ct_Te_bitCount G σ bs false hR) (by assumption) rfl rfl (Nat.le_of_ble_eq_true rfl) ⟨Nat.le_of_ble_eq_true rfl, Nat.le_of_ble_eq_true rfl⟩ ⟨Nat.le_of_ble_eq_true rfl, Nat.le_of_ble_eq_true rfl⟩ (fun rr_8 σ8 pp_8 => ?_)
    obtain ⟨ee_8, ff_8⟩ := pp_8
    rw [ee_8, ff_8]
    refine V.bipush C (nI 16) b_16 dX6_putTerm_11 ?_
    refine V.icmp_le C 17 dX6_putTerm_13 rfl (fun hb_13 => ?_) (fun hb_13 => ?_)
    · refine V.aload_n C 0 rfl rfl dX6_putTerm_17 ?_
      refine V.getI C fX6_31 dX6_putTerm_18 (by assumption) rfl ?_
      rw [hc]
      refine V.iconst C (nI 2) c_2 dX6_putTerm_21 ?_
      refine V.imul C dX6_putTerm_22 ?_
      refine V.iload_n C 1 rfl rfl dX6_putTerm_23 ?_
      refine V.iadd C dX6_putTerm_24 ?_
      rw [show nI c * nI 2 + nI d = nI (c * 2 + d) by rw [nI_mul, nI_add]]
      refine V.istore_n C 3 dX6_putTerm_25 rfl (by decide) ?_
      refine V.aload_n C 0 rfl rfl dX6_putTerm_26 ?_
      refine V.getR C fX6_28 dX6_putTerm_27 (by assumption) rfl ?_
      refine V.iload_n C 3 rfl rfl dX6_putTerm_30 ?_
      refine V.iconst C (nI 0) c_0 dX6_putTerm_31 ?_
      refine V.iastN C dX6_putTerm_32 (by assumption) (by omega) ?_
      refine V.iconst C (nI 0) c_0 dX6_putTerm_33 ?_
      refine V.istore C dX6_putTerm_34 (by decide) ?_
      refine V.lvs (lv' := [(0, Rf G o), (1, .int (nI d)), (2, Rf G 7), (3, .int (nI (c * 2 + d))), (4, .int (nI 0))]) rfl ?_
      refine loop (bs.length + 1) 0 _ (by omega) (by omega) (fun k hk => absurd hk (by omega)) (fun k hk1 hk2 => absurd hk2 (by omega)) (fun b hb1 hb2 => ?_) ((Fr.refl (o + 2) (o + 4) σ).sA _ (by omega) (by omega)) (fun j hj => ?_) (fun j hj => ?_)
      · rw [sA_A, up_eq, nI_0, b_0]
      · rw [sA_ne _ _ (by omega)]
      · rw [sA_A, up_ne _ _ (by omega)]
    · exact absurd (nI_le hb (by decide)) hb_13
set_option maxRecDepth 100000 in
set_option maxHeartbeats 4000000 in
theorem ct_St_finish (G : Gl) (σ : SS) (o cap c w : Nat) (hS : StA o cap) (h0 : σ.1 o 0 = nI cap) (hc : σ.1 o 1 = nI c) (hcc : c < cap) : CV G mX6_finish [Rf G o, .int (nI w)] σ (fun σ1 => σ1 = sF (sA σ (o + 1) (va_up (σ.2.1 (o + 1)) c (nI w))) o 1 (nI (c + 1))) := by
  refine Ctr.of oX6_finish (Nat.le_of_ble_eq_true rfl) ?_
  intro X C R hnm hz0
  have C : Cx G X cX6_finish 2 RX6 1 20 0 0 := C
  have R : Cr G X none 0 0 _ := R
  show V G X 2 0 0 0 [(0, Rf G o), (1, .int (nI w))] [] (wld G σ)
  obtain ⟨ho, h1, h2, h3, hcap⟩ := id hS
  refine V.aload_n C 0 rfl rfl dX6_finish_0 ?_
  refine V.cVi C lX6_38 oX6_isFull dX6_finish_1 (ct_St_isFull G σ o cap hS) (by assumption) rfl rfl (Nat.le_of_ble_eq_true rfl) ⟨Nat.le_of_ble_eq_true rfl, Nat.le_of_ble_eq_true rfl⟩ ⟨Nat.le_of_ble_eq_true rfl, Nat.le_of_ble_eq_true rfl⟩ (fun rr_1 σ1 pp_1 => ?_)
  obtain ⟨ee_1, ff_1⟩ := pp_1
  rw [ee_1, ff_1]
  refine V.if_ne C 27 dX6_finish_4 rfl (fun hb_4 => ?_) (fun hb_4 => ?_)
  · exact absurd (bI_ne0 hb_4) (by rw [hc, h0, decide_eq_false (fun q => q (nI_lt hcc (by omega)))]; decide)
  · refine V.aload_n C 0 rfl rfl dX6_finish_7 ?_
    refine V.getR C fX6_21 dX6_finish_8 (by assumption) rfl ?_
    refine V.aload_n C 0 rfl rfl dX6_finish_11 ?_
    refine V.getI C fX6_31 dX6_finish_12 (by assumption) rfl ?_
    rw [hc]
    refine V.iload_n C 1 rfl rfl dX6_finish_15 ?_
    refine V.iastN C dX6_finish_16 (by assumption) (by omega) ?_
    refine V.aload_n C 0 rfl rfl dX6_finish_17 ?_
    refine V.dup C rfl dX6_finish_18 ?_
    refine V.getI C fX6_31 dX6_finish_19 (by assumption) rfl ?_
    rw [show (sA σ (o + 1) (va_up (σ.2.1 (o + 1)) c (nI w))).1 o 1 = nI c from hc]
    refine V.iconst C (nI 1) c_1 dX6_finish_22 ?_
    refine V.iadd C dX6_finish_23 ?_
    rw [show nI c + nI 1 = nI (c + 1) from nI_add c 1]
    refine V.putI C fX6_31 dX6_finish_24 (by assumption) rfl ?_
    exact V.vretS C R dX6_finish_27 rfl
