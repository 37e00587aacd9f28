/-! The law: its own rules, and a call of each kind. (The words from R_law to lw_At are the skeleton's.) -/
def R_law : String := "SliceSolverLaw"
def lw_P (b : Addr) (xs : List Int32) (args : Array Value) (s : State) : Prop := args = #[.ref b] ∧ s.IntsAt b xs ∧ xs.length ≤ 2560 ∧ (Jvm.Cond.and given_1 narrow_1).before args s = true
def lw_Q (_ : Array Value) (s : State) (o : Outcome) (t : State) : Prop := o = .returned (some (.int 1)) ∧ Framed s o t [] 600000 7302250
def lw_Z (below : List Frame) (a : Array Value) (s : State) : State → Prop := fun t => ∃ o, t.status = .running ∧ Ended t below o ∧ lw_Q a s o t
/-- the law's own end, with 1 on the stack, nothing written that was there before, its room as the claim has it -/
theorem lw_ret {p : Program} {l : Launch} {e : Env} {s : State} {m : MethodId} {below : List Frame} {meth : Method} {c : Code} {b : Nat} (hx : p.tables.exec = Jvm.exec) (hb : c.code = code) (hr : meth.sig.returnType = ret) (hlocks : meth.locks = false) {pc : Nat} {H : Heap} {ls : Array Slot} (hdg : decode code pc = .ok (.ireturn, 1)) : W p l e room_1 s m #[Value.ref b] below meth c H [] 600000 7302250 (lw_Z below #[Value.ref b] s) (F0 m pc ls [.int 1]) := by
  intro T hT X
  obtain ⟨fs, hret, hrun, hended, hW, hframe⟩ := X.leave (v := some (.int 1)) (hlocks := hlocks) (fun h => by rw [hr] at h; cases h)
  have hmeth' : T.vm.method? m = some meth := X.method'
  refine ⟨T.setFrames fs, ?_, .returned (some (.int 1)), hrun, hended, rfl, ⟨_, rfl⟩, hW, hframe⟩
  jvm_step X.here [X.here.top, hx, hb, hdg, hmeth', hr, ret, narrow_b1]
  (try refine ⟨rfl, ?_⟩); (try refine ⟨rfl, ?_⟩)
  first | (intro acts; rw [hret _ acts rfl rfl rfl]) | rw [hret _ _ rfl rfl rfl]
  exact Steps.refl _
/-- what holds at the law's entry: the machine, the code, the tables' words (any of lw_tbl by 'hts w (by decide +kernel)'), the script of L ints xs at the cell b, what the Statement gives of the start (any of its parts by flat_of_before) -/
def lw_At (p : Program) (s : State) (m : MethodId) (meth : Method) (c : Code) (b L : Nat) (xs : Nat → Int32) : Prop :=
  p.tables.exec = Jvm.exec ∧ c.code = code ∧ meth.sig.returnType = ret ∧ c.maxLocals = 4 ∧ s.vm.findClass R_law = some m.cls ∧ (∀ w ∈ lw_tbl, w.before #[Value.ref b] s = true) ∧ va_X b L xs s s.heap ∧ b < s.heap.size ∧ meth.locks = false ∧ (Jvm.Cond.and given_1 narrow_1).before #[Value.ref b] s = true
section
variable {G : Gl} {X : Cx0} {cc : ByteArray} {nL fr lo mc ms ce sl pc : Nat} {own : String} {lv : List (Nat × Value)} {st : List Value} {cs : List va_E}
theorem V.sld (C : Cx G X cc nL own fr lo mc ms) {b L : Nat} {xs : Nat → Int32} (hX : va_X b L xs (xS X) (xS X).heap) (hbl : b < (xS X).heap.size) (hG : G.1 = (xS X).heap.size) (i : Nat) (hi : i < L) (hL : L < 2 ^ 31) (d : decode cc pc = .ok (.iaload, 1)) (k : V G X nL ce sl (pc + 1) lv (.int (xs i) :: st) cs) : V G X nL ce sl pc lv (.int (nI i) :: .ref b :: st) cs := fun H locs ls a1 a2 a3 => by
  have k1 := k H locs ls a1 a2 a3
  have e : i = (nI i).toNatClampNeg := (nI_clamp (by omega)).symm
  refine va_sld C.1 C.2.1 hX hbl (show ¬ G.1 ≤ b by omega) a2 (vp_in_nI hi hL) d ?_
  rw [← e]; exact k1
theorem V.slen (C : Cx G X cc nL own fr lo mc ms) {b L : Nat} {xs : Nat → Int32} (hX : va_X b L xs (xS X) (xS X).heap) (hbl : b < (xS X).heap.size) (hG : G.1 = (xS X).heap.size) (d : decode cc pc = .ok (.arraylength, 1)) (k : V G X nL ce sl (pc + 1) lv (.int (nI L) :: st) cs) : V G X nL ce sl pc lv (.ref b :: st) cs := fun H locs ls a1 a2 a3 =>
  va_slen C.1 C.2.1 hX hbl (show ¬ G.1 ≤ b by omega) a2 d (k H locs ls a1 a2 a3)
theorem V.tabIn (C : Cx G X cc nL own fr lo mc ms) {dflt lo' hi : Int} {offs : Array Int} {len : Nat} {x : Int32} {off : Int} (tgt : Nat) (d : decode cc pc = .ok (.tableswitch dflt lo' hi offs, len)) (h1 : ¬ x.toInt < lo') (h2 : ¬ hi < x.toInt) (ho : offs[(x.toInt - lo').toNat]? = some off) (ht : (pc : Int) + off = (tgt : Int)) (k : V G X nL ce sl tgt lv st cs) : V G X nL ce sl pc lv (.int x :: st) cs := fun H locs ls a1 a2 a3 =>
  lv_tableIn C.1 C.2.1 d h1 h2 ho ht (k H locs ls a1 a2 a3)
theorem V.tabOut (C : Cx G X cc nL own fr lo mc ms) {dflt lo' hi : Int} {offs : Array Int} {len : Nat} {x : Int32} (tgt : Nat) (d : decode cc pc = .ok (.tableswitch dflt lo' hi offs, len)) (h : x.toInt < lo' ∨ hi < x.toInt) (ht : (pc : Int) + dflt = (tgt : Int)) (k : V G X nL ce sl tgt lv st cs) : V G X nL ce sl pc lv (.int x :: st) cs := fun H locs ls a1 a2 a3 =>
  lv_tableOut C.1 C.2.1 d h ht (k H locs ls a1 a2 a3)
end
theorem and31 (x : Int32) : ∃ k, k < 32 ∧ x &&& nI 31 = nI k := by
  refine ⟨(x &&& nI 31).toBitVec.toNat, ?_, ?_⟩
  · rw [Int32.toBitVec_and, BitVec.toNat_and]
    have : (nI 31).toBitVec.toNat = 31 := by decide
    rw [this]
    exact Nat.lt_of_le_of_lt Nat.and_le_right (by decide)
  · apply Int32.toBitVec_inj.mp
    show _ = BitVec.ofNat 32 _
    rw [BitVec.ofNat_toNat]
    simp
theorem law_idx {i L : Nat} (hi : i ≤ 3000) (hL : L ≤ 2560) (h : ¬ nI i > nI L - nI 5) : i + 5 ≤ L := by
  have h1 : ¬ (nI L - nI 5).toInt < (nI i).toInt := fun q => h ((lt_iff _ _).mpr q)
  rw [nI_toInt (by omega)] at h1
  rcases Nat.lt_or_ge L 5 with q | q
  · exfalso
    rcases (show L = 0 ∨ L = 1 ∨ L = 2 ∨ L = 3 ∨ L = 4 by omega) with rfl | rfl | rfl | rfl | rfl
    · rw [show (nI 0 - nI 5).toInt = -5 by decide] at h1; omega
    · rw [show (nI 1 - nI 5).toInt = -4 by decide] at h1; omega
    · rw [show (nI 2 - nI 5).toInt = -3 by decide] at h1; omega
    · rw [show (nI 3 - nI 5).toInt = -2 by decide] at h1; omega
    · rw [show (nI 4 - nI 5).toInt = -1 by decide] at h1; omega
  · rw [nI_sub q, nI_toInt (by omega)] at h1
    omega
theorem wfH.take {hs : List Prob} (h : wfH hs) (k : Nat) : wfH (hs.take k) := fun i Q hQ => by
  rw [List.getElem?_take] at hQ
  split at hQ
  · exact h i Q hQ
  · cases hQ
theorem wfSl.up {sl : Nat → Option Prob} {P : Prob} (h : wfSl sl) (hP : wfP P) (x : Int32) : wfSl (svS P sl x) := by
  intro j Q hQ
  unfold svS at hQ
  split at hQ
  · by_cases q : j = x.toNatClampNeg
    · rw [q, up_eq] at hQ; cases hQ; exact hP
    · rw [up_ne _ _ q] at hQ; exact h j Q hQ
  · exact h j Q hQ
theorem wfH.rm {l : List Stm} {hs : List Prob} {P : Prob} (h : wfH hs) (hP : wfP P) (x : Int32) : wfH (rmH l hs P x) := by
  unfold rmH
  split
  · exact h.push hP
  · exact h
theorem wfH.rs {hs : List Prob} {sl : Nat → Option Prob} (h : wfH hs) (x : Int32) : wfH (rsH hs sl x) := by
  unfold rsH
  split
  · intro i Q hQ; cases hQ
  · exact h
set_option maxRecDepth 100000 in
set_option maxHeartbeats 4000000 in
theorem law_append (G : Gl) (X : Cx0) (C : Cx G X cL_law 4 "SliceSolverLaw" 13 478 600000 7302250) (b L : Nat) (xs : Nat → Int32) (hX : va_X b L xs (xS X) (xS X).heap) (hbl : b < (xS X).heap.size) (hG : G.1 = (xS X).heap.size) (hL : L ≤ 2560) (i : Nat) (hi : i + 5 ≤ L) (σ : SS) (hI : InvL σ) (go : ∀ σ1, InvL σ1 → V G X 4 136 11551 717 [(0, .ref b), (1, Rf G 0), (2, Rf G 123), (3, .int (nI i))] [] (wld G σ1)) : V G X 4 136 11551 156 [(0, .ref b), (1, Rf G 0), (2, Rf G 123), (3, .int (nI i))] [] (wld G σ) := by
  obtain ⟨n, ch, P, hs, sl, hS, hM, hwH, hwS⟩ := hI
  have hC := hS.1
  have hW := hC.2.1
  have kk_0 := sk_0
  have kk_123 := sk_123
  refine V.aload_n C 1 rfl rfl dL_law_156 ?_
  refine V.rload_n C 0 rfl rfl dL_law_157 ?_
  refine V.iload_n C 3 rfl rfl dL_law_158 ?_
  refine V.iconst C (nI 1) c_1 dL_law_159 ?_
  refine V.iadd C dL_law_160 ?_
  rw [nI_add]
  refine V.sld C hX hbl hG (i + 1) (by omega) (by omega) dL_law_161 ?_
  refine V.cVi C lL_13 oX9_append dL_law_162 (ct_S_append G σ n ch P hs sl (xs (i + 1)) hS) (by assumption) rfl rfl (Nat.le_of_ble_eq_true rfl) ⟨Nat.le_of_ble_eq_true rfl, Nat.le_of_ble_eq_true rfl⟩ ⟨Nat.le_of_ble_eq_true rfl, Nat.le_of_ble_eq_true rfl⟩ (fun rr_162 σ162 pp_162 => ?_)
  obtain ⟨e1_, S1_, m1_⟩ := pp_162
  have M1_ := hM.sm m1_
  refine V.aload_n C 2 rfl rfl dL_law_165 ?_
  refine V.rload_n C 0 rfl rfl dL_law_166 ?_
  refine V.iload_n C 3 rfl rfl dL_law_167 ?_
  refine V.iconst C (nI 1) c_1 dL_law_168 ?_
  refine V.iadd C dL_law_169 ?_
  rw [nI_add]
  refine V.sld C hX hbl hG (i + 1) (by omega) (by omega) dL_law_170 ?_
  refine V.cVi C lL_17 oX10_append dL_law_171 (ct_M_append G _ n ch (xs (i + 1)) M1_.1) (by assumption) rfl rfl (Nat.le_of_ble_eq_true rfl) ⟨Nat.le_of_ble_eq_true rfl, Nat.le_of_ble_eq_true rfl⟩ ⟨Nat.le_of_ble_eq_true rfl, Nat.le_of_ble_eq_true rfl⟩ (fun rr_171 σ171 pp_171 => ?_)
  obtain ⟨e2_, T2_, F2_⟩ := pp_171
  have M2_ : IM σ171 (apN n (xs (i + 1))) (apC n ch (xs (i + 1))) P hs sl := ⟨T2_, by rw [F2_.a (by decide)]; exact M1_.2.1, M1_.2.2.1.fm F2_ (by decide) (by decide), M1_.2.2.2.1.fm F2_ (by decide) (by decide), M1_.2.2.2.2.fm F2_ (by decide)⟩
  exact V.icmp_eq C 717 dL_law_174 rfl (fun _ => go σ171 ⟨_, _, P, hs, sl, S1_.fm F2_ (by decide), M2_, hwH, hwS⟩) (fun hne_ => absurd (e1_.trans e2_.symm) hne_)
set_option maxRecDepth 100000 in
set_option maxHeartbeats 4000000 in
theorem law_clearText (G : Gl) (X : Cx0) (C : Cx G X cL_law 4 "SliceSolverLaw" 13 478 600000 7302250) (b L : Nat) (xs : Nat → Int32) (hX : va_X b L xs (xS X) (xS X).heap) (hbl : b < (xS X).heap.size) (hG : G.1 = (xS X).heap.size) (hL : L ≤ 2560) (i : Nat) (hi : i + 5 ≤ L) (σ : SS) (hI : InvL σ) (go : ∀ σ1, InvL σ1 → V G X 4 136 11551 717 [(0, .ref b), (1, Rf G 0), (2, Rf G 123), (3, .int (nI i))] [] (wld G σ1)) : V G X 4 136 11551 179 [(0, .ref b), (1, Rf G 0), (2, Rf G 123), (3, .int (nI i))] [] (wld G σ) := by
  obtain ⟨n, ch, P, hs, sl, hS, hM, hwH, hwS⟩ := hI
  have hC := hS.1
  have hW := hC.2.1
  have kk_0 := sk_0
  have kk_123 := sk_123
  refine V.aload_n C 1 rfl rfl dL_law_179 ?_
  refine V.cVi C lL_18 oX9_clearText dL_law_180 (ct_S_clearText G σ n ch P hs sl hS) (by assumption) rfl rfl (Nat.le_of_ble_eq_true rfl) ⟨Nat.le_of_ble_eq_true rfl, Nat.le_of_ble_eq_true rfl⟩ ⟨Nat.le_of_ble_eq_true rfl, Nat.le_of_ble_eq_true rfl⟩ (fun rr_180 σ180 pp_180 => ?_)
  obtain ⟨e1_, S1_, m1_⟩ := pp_180
  have M1_ := hM.sm m1_
  refine V.aload_n C 2 rfl rfl dL_law_183 ?_
  refine V.cVi C lL_22 oX10_clearText dL_law_184 (ct_M_clearText G _ n ch M1_.1) (by assumption) rfl rfl (Nat.le_of_ble_eq_true rfl) ⟨Nat.le_of_ble_eq_true rfl, Nat.le_of_ble_eq_true rfl⟩ ⟨Nat.le_of_ble_eq_true rfl, Nat.le_of_ble_eq_true rfl⟩ (fun rr_184 σ184 pp_184 => ?_)
  obtain ⟨e2_, T2_, F2_⟩ := pp_184
  have M2_ : IM σ184 0 ch P hs sl := ⟨T2_, by rw [F2_.a (by decide)]; exact M1_.2.1, M1_.2.2.1.fm F2_ (by decide) (by decide), M1_.2.2.2.1.fm F2_ (by decide) (by decide), M1_.2.2.2.2.fm F2_ (by decide)⟩
  exact V.icmp_eq C 717 dL_law_187 rfl (fun _ => go σ184 ⟨_, _, P, hs, sl, S1_.fm F2_ (by decide), M2_, hwH, hwS⟩) (fun hne_ => absurd (e1_.trans e2_.symm) hne_)
set_option maxRecDepth 100000 in
set_option maxHeartbeats 4000000 in
theorem law_load (G : Gl) (X : Cx0) (C : Cx G X cL_law 4 "SliceSolverLaw" 13 478 600000 7302250) (b L : Nat) (xs : Nat → Int32) (hX : va_X b L xs (xS X) (xS X).heap) (hbl : b < (xS X).heap.size) (hG : G.1 = (xS X).heap.size) (hL : L ≤ 2560) (i : Nat) (hi : i + 5 ≤ L) (σ : SS) (hI : InvL σ) (go : ∀ σ1, InvL σ1 → V G X 4 136 11551 717 [(0, .ref b), (1, Rf G 0), (2, Rf G 123), (3, .int (nI i))] [] (wld G σ1)) : V G X 4 136 11551 192 [(0, .ref b), (1, Rf G 0), (2, Rf G 123), (3, .int (nI i))] [] (wld G σ) := by
  obtain ⟨n, ch, P, hs, sl, hS, hM, hwH, hwS⟩ := hI
  have hC := hS.1
  have hW := hC.2.1
  have kk_0 := sk_0
  have kk_123 := sk_123
  refine V.aload_n C 1 rfl rfl dL_law_192 ?_
  refine V.cVi C lL_23 oX9_load dL_law_193 (ct_S_load G σ n ch P hs sl hS) (by assumption) rfl rfl (Nat.le_of_ble_eq_true rfl) ⟨Nat.le_of_ble_eq_true rfl, Nat.le_of_ble_eq_true rfl⟩ ⟨Nat.le_of_ble_eq_true rfl, Nat.le_of_ble_eq_true rfl⟩ (fun rr_193 σ193 pp_193 => ?_)
  obtain ⟨d1_, m1_⟩ := pp_193
  have M1_ := hM.sm m1_
  refine V.aload_n C 2 rfl rfl dL_law_196 ?_
  refine V.cVi C lL_26 oX10_load dL_law_197 (ct_M_load G _ n ch P hs M1_.1 M1_.2.1 hW M1_.2.2.1 hwH) (by assumption) rfl rfl (Nat.le_of_ble_eq_true rfl) ⟨Nat.le_of_ble_eq_true rfl, Nat.le_of_ble_eq_true rfl⟩ ⟨Nat.le_of_ble_eq_true rfl, Nat.le_of_ble_eq_true rfl⟩ (fun rr_197 σ197 pp_197 => ?_)
  obtain ⟨d2_, F2_⟩ := pp_197
  rcases d1_ with ⟨P1_, t1_, e1_, S1_⟩ | ⟨x1_, t1_, e1_, S1_⟩
  · rcases d2_ with ⟨P2_, t2_, e2_, f2_, H2_, n2_⟩ | ⟨x2_, t2_, _⟩
    · rw [t1_] at t2_
      cases t2_
      have M2_ : IM σ197 0 ch P1_ (pushH hs P) sl := ⟨⟨n2_, by omega, fun i hi => absurd hi (by omega)⟩, f2_, H2_, M1_.2.2.2.1.fm F2_ (by decide) (by decide), M1_.2.2.2.2.fm F2_ (by decide)⟩
      exact V.icmp_eq C 717 dL_law_200 rfl (fun _ => go σ197 ⟨_, _, _, _, _, S1_.fm F2_ (by decide), M2_, hwH.push hW, hwS⟩) (fun hne_ => absurd (e1_.trans e2_.symm) hne_)
    · rw [t1_] at t2_; cases t2_
  · rcases d2_ with ⟨P2_, t2_, _⟩ | ⟨x2_, t2_, e2_, f2_, H2_, T2_⟩
    · rw [t1_] at t2_; cases t2_
    · rw [t1_] at t2_
      cases t2_
      have M2_ : IM σ197 n ch P hs sl := ⟨T2_, f2_, H2_, M1_.2.2.2.1.fm F2_ (by decide) (by decide), M1_.2.2.2.2.fm F2_ (by decide)⟩
      exact V.icmp_eq C 717 dL_law_200 rfl (fun _ => go σ197 ⟨_, _, _, _, _, S1_.fm F2_ (by decide), M2_, hwH, hwS⟩) (fun hne_ => absurd (e1_.trans e2_.symm) hne_)
set_option maxRecDepth 100000 in
set_option maxHeartbeats 4000000 in
theorem law_removeEquation (G : Gl) (X : Cx0) (C : Cx G X cL_law 4 "SliceSolverLaw" 13 478 600000 7302250) (b L : Nat) (xs : Nat → Int32) (hX : va_X b L xs (xS X) (xS X).heap) (hbl : b < (xS X).heap.size) (hG : G.1 = (xS X).heap.size) (hL : L ≤ 2560) (i : Nat) (hi : i + 5 ≤ L) (σ : SS) (hI : InvL σ) (go : ∀ σ1, InvL σ1 → V G X 4 136 11551 717 [(0, .ref b), (1, Rf G 0), (2, Rf G 123), (3, .int (nI i))] [] (wld G σ1)) : V G X 4 136 11551 205 [(0, .ref b), (1, Rf G 0), (2, Rf G 123), (3, .int (nI i))] [] (wld G σ) := by
  obtain ⟨n, ch, P, hs, sl, hS, hM, hwH, hwS⟩ := hI
  have hC := hS.1
  have hW := hC.2.1
  have kk_0 := sk_0
  have kk_123 := sk_123
  refine V.aload_n C 1 rfl rfl dL_law_205 ?_
  refine V.rload_n C 0 rfl rfl dL_law_206 ?_
  refine V.iload_n C 3 rfl rfl dL_law_207 ?_
  refine V.iconst C (nI 1) c_1 dL_law_208 ?_
  refine V.iadd C dL_law_209 ?_
  rw [nI_add]
  refine V.sld C hX hbl hG (i + 1) (by omega) (by omega) dL_law_210 ?_
  refine V.cVi C lL_27 oX9_removeEquation dL_law_211 (ct_S_removeEquation G σ n ch P hs sl (xs (i + 1)) hS) (by assumption) rfl rfl (Nat.le_of_ble_eq_true rfl) ⟨Nat.le_of_ble_eq_true rfl, Nat.le_of_ble_eq_true rfl⟩ ⟨Nat.le_of_ble_eq_true rfl, Nat.le_of_ble_eq_true rfl⟩ (fun rr_211 σ211 pp_211 => ?_)
  obtain ⟨e1_, S1_, m1_⟩ := pp_211
  have M1_ := hM.sm m1_
  refine V.aload_n C 2 rfl rfl dL_law_214 ?_
  refine V.rload_n C 0 rfl rfl dL_law_215 ?_
  refine V.iload_n C 3 rfl rfl dL_law_216 ?_
  refine V.iconst C (nI 1) c_1 dL_law_217 ?_
  refine V.iadd C dL_law_218 ?_
  rw [nI_add]
  refine V.sld C hX hbl hG (i + 1) (by omega) (by omega) dL_law_219 ?_
  refine V.cVi C lL_30 oX10_removeEquation dL_law_220 (ct_M_removeEquation G _ P hs (xs (i + 1)) M1_.2.1 hW M1_.2.2.1 hwH) (by assumption) rfl rfl (Nat.le_of_ble_eq_true rfl) ⟨Nat.le_of_ble_eq_true rfl, Nat.le_of_ble_eq_true rfl⟩ ⟨Nat.le_of_ble_eq_true rfl, Nat.le_of_ble_eq_true rfl⟩ (fun rr_220 σ220 pp_220 => ?_)
  obtain ⟨e2_, P2_, H2_, F2_⟩ := pp_220
  have M2_ : IM σ220 n ch (rmE P (xs (i + 1))) (rmH P.2.1 hs P (xs (i + 1))) sl := ⟨M1_.1.fm F2_ (by decide) (by decide), P2_, H2_, M1_.2.2.2.1.fm F2_ (by decide) (by decide), M1_.2.2.2.2.fm F2_ (by decide)⟩
  exact V.icmp_eq C 717 dL_law_223 rfl (fun _ => go σ220 ⟨n, ch, _, _, sl, S1_.fm F2_ (by decide), M2_, hwH.rm hW _, hwS⟩) (fun hne_ => absurd (e1_.trans e2_.symm) hne_)
set_option maxRecDepth 100000 in
set_option maxHeartbeats 4000000 in
theorem law_removeDisequation (G : Gl) (X : Cx0) (C : Cx G X cL_law 4 "SliceSolverLaw" 13 478 600000 7302250) (b L : Nat) (xs : Nat → Int32) (hX : va_X b L xs (xS X) (xS X).heap) (hbl : b < (xS X).heap.size) (hG : G.1 = (xS X).heap.size) (hL : L ≤ 2560) (i : Nat) (hi : i + 5 ≤ L) (σ : SS) (hI : InvL σ) (go : ∀ σ1, InvL σ1 → V G X 4 136 11551 717 [(0, .ref b), (1, Rf G 0), (2, Rf G 123), (3, .int (nI i))] [] (wld G σ1)) : V G X 4 136 11551 228 [(0, .ref b), (1, Rf G 0), (2, Rf G 123), (3, .int (nI i))] [] (wld G σ) := by
  obtain ⟨n, ch, P, hs, sl, hS, hM, hwH, hwS⟩ := hI
  have hC := hS.1
  have hW := hC.2.1
  have kk_0 := sk_0
  have kk_123 := sk_123
  refine V.aload_n C 1 rfl rfl dL_law_228 ?_
  refine V.rload_n C 0 rfl rfl dL_law_229 ?_
  refine V.iload_n C 3 rfl rfl dL_law_230 ?_
  refine V.iconst C (nI 1) c_1 dL_law_231 ?_
  refine V.iadd C dL_law_232 ?_
  rw [nI_add]
  refine V.sld C hX hbl hG (i + 1) (by omega) (by omega) dL_law_233 ?_
  refine V.cVi C lL_31 oX9_removeDisequation dL_law_234 (ct_S_removeDisequation G σ n ch P hs sl (xs (i + 1)) hS) (by assumption) rfl rfl (Nat.le_of_ble_eq_true rfl) ⟨Nat.le_of_ble_eq_true rfl, Nat.le_of_ble_eq_true rfl⟩ ⟨Nat.le_of_ble_eq_true rfl, Nat.le_of_ble_eq_true rfl⟩ (fun rr_234 σ234 pp_234 => ?_)
  obtain ⟨e1_, S1_, m1_⟩ := pp_234
  have M1_ := hM.sm m1_
  refine V.aload_n C 2 rfl rfl dL_law_237 ?_
  refine V.rload_n C 0 rfl rfl dL_law_238 ?_
  refine V.iload_n C 3 rfl rfl dL_law_239 ?_
  refine V.iconst C (nI 1) c_1 dL_law_240 ?_
  refine V.iadd C dL_law_241 ?_
  rw [nI_add]
  refine V.sld C hX hbl hG (i + 1) (by omega) (by omega) dL_law_242 ?_
  refine V.cVi C lL_34 oX10_removeDisequation dL_law_243 (ct_M_removeDisequation G _ P hs (xs (i + 1)) M1_.2.1 hW M1_.2.2.1 hwH) (by assumption) rfl rfl (Nat.le_of_ble_eq_true rfl) ⟨Nat.le_of_ble_eq_true rfl, Nat.le_of_ble_eq_true rfl⟩ ⟨Nat.le_of_ble_eq_true rfl, Nat.le_of_ble_eq_true rfl⟩ (fun rr_243 σ243 pp_243 => ?_)
  obtain ⟨e2_, P2_, H2_, F2_⟩ := pp_243
  have M2_ : IM σ243 n ch (rmD P (xs (i + 1))) (rmH P.2.2 hs P (xs (i + 1))) sl := ⟨M1_.1.fm F2_ (by decide) (by decide), P2_, H2_, M1_.2.2.2.1.fm F2_ (by decide) (by decide), M1_.2.2.2.2.fm F2_ (by decide)⟩
  exact V.icmp_eq C 717 dL_law_246 rfl (fun _ => go σ243 ⟨n, ch, _, _, sl, S1_.fm F2_ (by decide), M2_, hwH.rm hW _, hwS⟩) (fun hne_ => absurd (e1_.trans e2_.symm) hne_)
set_option maxRecDepth 100000 in
set_option maxHeartbeats 4000000 in
theorem law_width (G : Gl) (X : Cx0) (C : Cx G X cL_law 4 "SliceSolverLaw" 13 478 600000 7302250) (b L : Nat) (xs : Nat → Int32) (hX : va_X b L xs (xS X) (xS X).heap) (hbl : b < (xS X).heap.size) (hG : G.1 = (xS X).heap.size) (hL : L ≤ 2560) (i : Nat) (hi : i + 5 ≤ L) (σ : SS) (hI : InvL σ) (go : ∀ σ1, InvL σ1 → V G X 4 136 11551 717 [(0, .ref b), (1, Rf G 0), (2, Rf G 123), (3, .int (nI i))] [] (wld G σ1)) : V G X 4 136 11551 251 [(0, .ref b), (1, Rf G 0), (2, Rf G 123), (3, .int (nI i))] [] (wld G σ) := by
  obtain ⟨n, ch, P, hs, sl, hS, hM, hwH, hwS⟩ := hI
  have hC := hS.1
  have hW := hC.2.1
  have kk_0 := sk_0
  have kk_123 := sk_123
  refine V.aload_n C 1 rfl rfl dL_law_251 ?_
  refine V.rload_n C 0 rfl rfl dL_law_252 ?_
  refine V.iload_n C 3 rfl rfl dL_law_253 ?_
  refine V.iconst C (nI 1) c_1 dL_law_254 ?_
  refine V.iadd C dL_law_255 ?_
  rw [nI_add]
  refine V.sld C hX hbl hG (i + 1) (by omega) (by omega) dL_law_256 ?_
  refine V.cVi C lL_35 oX9_width dL_law_257 (ct_S_width G σ P (xs (i + 1)) hC) (by assumption) rfl rfl (Nat.le_of_ble_eq_true rfl) ⟨Nat.le_of_ble_eq_true rfl, Nat.le_of_ble_eq_true rfl⟩ ⟨Nat.le_of_ble_eq_true rfl, Nat.le_of_ble_eq_true rfl⟩ (fun rr_257 σ257 pp_257 => ?_)
  obtain ⟨e1_, f1_⟩ := pp_257
  have S1_ : IS σ257 n ch P hs sl := by rw [f1_]; exact hS
  have M1_ : IM σ257 n ch P hs sl := by rw [f1_]; exact hM
  refine V.aload_n C 2 rfl rfl dL_law_260 ?_
  refine V.rload_n C 0 rfl rfl dL_law_261 ?_
  refine V.iload_n C 3 rfl rfl dL_law_262 ?_
  refine V.iconst C (nI 1) c_1 dL_law_263 ?_
  refine V.iadd C dL_law_264 ?_
  rw [nI_add]
  refine V.sld C hX hbl hG (i + 1) (by omega) (by omega) dL_law_265 ?_
  refine V.cVi C lL_38 oX10_width dL_law_266 (ct_M_width G _ P (xs (i + 1)) M1_.2.1) (by assumption) rfl rfl (Nat.le_of_ble_eq_true rfl) ⟨Nat.le_of_ble_eq_true rfl, Nat.le_of_ble_eq_true rfl⟩ ⟨Nat.le_of_ble_eq_true rfl, Nat.le_of_ble_eq_true rfl⟩ (fun rr_266 σ266 pp_266 => ?_)
  obtain ⟨e2_, F2_⟩ := pp_266
  have M2_ := M1_.fm F2_ (by decide) (by decide) (by decide) (by decide) (by decide) (by decide) (by decide) (by decide)
  exact V.icmp_eq C 717 dL_law_269 rfl (fun _ => go σ266 ⟨n, ch, P, hs, sl, S1_.fm F2_ (by decide), M2_, hwH, hwS⟩) (fun hne_ => absurd (e1_.trans e2_.symm) hne_)
set_option maxRecDepth 100000 in
set_option maxHeartbeats 4000000 in
theorem law_equationCount (G : Gl) (X : Cx0) (C : Cx G X cL_law 4 "SliceSolverLaw" 13 478 600000 7302250) (b L : Nat) (xs : Nat → Int32) (hX : va_X b L xs (xS X) (xS X).heap) (hbl : b < (xS X).heap.size) (hG : G.1 = (xS X).heap.size) (hL : L ≤ 2560) (i : Nat) (hi : i + 5 ≤ L) (σ : SS) (hI : InvL σ) (go : ∀ σ1, InvL σ1 → V G X 4 136 11551 717 [(0, .ref b), (1, Rf G 0), (2, Rf G 123), (3, .int (nI i))] [] (wld G σ1)) : V G X 4 136 11551 274 [(0, .ref b), (1, Rf G 0), (2, Rf G 123), (3, .int (nI i))] [] (wld G σ) := by
  obtain ⟨n, ch, P, hs, sl, hS, hM, hwH, hwS⟩ := hI
  have hC := hS.1
  have hW := hC.2.1
  have kk_0 := sk_0
  have kk_123 := sk_123
  refine V.aload_n C 1 rfl rfl dL_law_274 ?_
  refine V.cVi C lL_39 oX9_equationCount dL_law_275 (ct_S_eqCount G σ P hC) (by assumption) rfl rfl (Nat.le_of_ble_eq_true rfl) ⟨Nat.le_of_ble_eq_true rfl, Nat.le_of_ble_eq_true rfl⟩ ⟨Nat.le_of_ble_eq_true rfl, Nat.le_of_ble_eq_true rfl⟩ (fun rr_275 σ275 pp_275 => ?_)
  obtain ⟨e1_, f1_⟩ := pp_275
  have S1_ : IS σ275 n ch P hs sl := by rw [f1_]; exact hS
  have M1_ : IM σ275 n ch P hs sl := by rw [f1_]; exact hM
  refine V.aload_n C 2 rfl rfl dL_law_278 ?_
  refine V.cVi C lL_42 oX10_equationCount dL_law_279 (ct_M_equationCount G _ P M1_.2.1) (by assumption) rfl rfl (Nat.le_of_ble_eq_true rfl) ⟨Nat.le_of_ble_eq_true rfl, Nat.le_of_ble_eq_true rfl⟩ ⟨Nat.le_of_ble_eq_true rfl, Nat.le_of_ble_eq_true rfl⟩ (fun rr_279 σ279 pp_279 => ?_)
  obtain ⟨e2_, F2_⟩ := pp_279
  have M2_ := M1_.fm F2_ (by decide) (by decide) (by decide) (by decide) (by decide) (by decide) (by decide) (by decide)
  exact V.icmp_eq C 717 dL_law_282 rfl (fun _ => go σ279 ⟨n, ch, P, hs, sl, S1_.fm F2_ (by decide), M2_, hwH, hwS⟩) (fun hne_ => absurd (e1_.trans e2_.symm) hne_)
set_option maxRecDepth 100000 in
set_option maxHeartbeats 4000000 in
theorem law_disequationCount (G : Gl) (X : Cx0) (C : Cx G X cL_law 4 "SliceSolverLaw" 13 478 600000 7302250) (b L : Nat) (xs : Nat → Int32) (hX : va_X b L xs (xS X) (xS X).heap) (hbl : b < (xS X).heap.size) (hG : G.1 = (xS X).heap.size) (hL : L ≤ 2560) (i : Nat) (hi : i + 5 ≤ L) (σ : SS) (hI : InvL σ) (go : ∀ σ1, InvL σ1 → V G X 4 136 11551 717 [(0, .ref b), (1, Rf G 0), (2, Rf G 123), (3, .int (nI i))] [] (wld G σ1)) : V G X 4 136 11551 287 [(0, .ref b), (1, Rf G 0), (2, Rf G 123), (3, .int (nI i))] [] (wld G σ) := by
  obtain ⟨n, ch, P, hs, sl, hS, hM, hwH, hwS⟩ := hI
  have hC := hS.1
  have hW := hC.2.1
  have kk_0 := sk_0
  have kk_123 := sk_123
  refine V.aload_n C 1 rfl rfl dL_law_287 ?_
  refine V.cVi C lL_43 oX9_disequationCount dL_law_288 (ct_S_diCount G σ P hC) (by assumption) rfl rfl (Nat.le_of_ble_eq_true rfl) ⟨Nat.le_of_ble_eq_true rfl, Nat.le_of_ble_eq_true rfl⟩ ⟨Nat.le_of_ble_eq_true rfl, Nat.le_of_ble_eq_true rfl⟩ (fun rr_288 σ288 pp_288 => ?_)
  obtain ⟨e1_, f1_⟩ := pp_288
  have S1_ : IS σ288 n ch P hs sl := by rw [f1_]; exact hS
  have M1_ : IM σ288 n ch P hs sl := by rw [f1_]; exact hM
  refine V.aload_n C 2 rfl rfl dL_law_291 ?_
  refine V.cVi C lL_46 oX10_disequationCount dL_law_292 (ct_M_disequationCount G _ P M1_.2.1) (by assumption) rfl rfl (Nat.le_of_ble_eq_true rfl) ⟨Nat.le_of_ble_eq_true rfl, Nat.le_of_ble_eq_true rfl⟩ ⟨Nat.le_of_ble_eq_true rfl, Nat.le_of_ble_eq_true rfl⟩ (fun rr_292 σ292 pp_292 => ?_)
  obtain ⟨e2_, F2_⟩ := pp_292
  have M2_ := M1_.fm F2_ (by decide) (by decide) (by decide) (by decide) (by decide) (by decide) (by decide) (by decide)
  exact V.icmp_eq C 717 dL_law_295 rfl (fun _ => go σ292 ⟨n, ch, P, hs, sl, S1_.fm F2_ (by decide), M2_, hwH, hwS⟩) (fun hne_ => absurd (e1_.trans e2_.symm) hne_)
set_option maxRecDepth 100000 in
set_option maxHeartbeats 4000000 in
theorem law_sliceCount (G : Gl) (X : Cx0) (C : Cx G X cL_law 4 "SliceSolverLaw" 13 478 600000 7302250) (b L : Nat) (xs : Nat → Int32) (hX : va_X b L xs (xS X) (xS X).heap) (hbl : b < (xS X).heap.size) (hG : G.1 = (xS X).heap.size) (hL : L ≤ 2560) (i : Nat) (hi : i + 5 ≤ L) (σ : SS) (hI : InvL σ) (go : ∀ σ1, InvL σ1 → V G X 4 136 11551 717 [(0, .ref b), (1, Rf G 0), (2, Rf G 123), (3, .int (nI i))] [] (wld G σ1)) : V G X 4 136 11551 300 [(0, .ref b), (1, Rf G 0), (2, Rf G 123), (3, .int (nI i))] [] (wld G σ) := by
  obtain ⟨n, ch, P, hs, sl, hS, hM, hwH, hwS⟩ := hI
  have hC := hS.1
  have hW := hC.2.1
  have kk_0 := sk_0
  have kk_123 := sk_123
  refine V.aload_n C 1 rfl rfl dL_law_300 ?_
  refine V.rload_n C 0 rfl rfl dL_law_301 ?_
  refine V.iload_n C 3 rfl rfl dL_law_302 ?_
  refine V.iconst C (nI 1) c_1 dL_law_303 ?_
  refine V.iadd C dL_law_304 ?_
  rw [nI_add]
  refine V.sld C hX hbl hG (i + 1) (by omega) (by omega) dL_law_305 ?_
  refine V.cVi C lL_47 oX9_sliceCount dL_law_306 (ct_S_sliceCount G σ P (xs (i + 1)) hC) (by assumption) rfl rfl (Nat.le_of_ble_eq_true rfl) ⟨Nat.le_of_ble_eq_true rfl, Nat.le_of_ble_eq_true rfl⟩ ⟨Nat.le_of_ble_eq_true rfl, Nat.le_of_ble_eq_true rfl⟩ (fun rr_306 σ306 pp_306 => ?_)
  obtain ⟨K_, l1_, e1_, f1_⟩ := pp_306
  have S1_ : IS σ306 n ch P hs sl := by rw [f1_]; exact hS
  have M1_ : IM σ306 n ch P hs sl := by rw [f1_]; exact hM
  obtain ⟨c0_, h0_⟩ := M1_.2.2.2.2
  refine V.aload_n C 2 rfl rfl dL_law_309 ?_
  refine V.rload_n C 0 rfl rfl dL_law_310 ?_
  refine V.iload_n C 3 rfl rfl dL_law_311 ?_
  refine V.iconst C (nI 1) c_1 dL_law_312 ?_
  refine V.iadd C dL_law_313 ?_
  rw [nI_add]
  refine V.sld C hX hbl hG (i + 1) (by omega) (by omega) dL_law_314 ?_
  refine V.cVi C lL_50 oX10_sliceCount dL_law_315 (ct_M_sliceCount G _ P c0_ (xs (i + 1)) M1_.2.1 hW h0_) (by assumption) rfl rfl (Nat.le_of_ble_eq_true rfl) ⟨Nat.le_of_ble_eq_true rfl, Nat.le_of_ble_eq_true rfl⟩ ⟨Nat.le_of_ble_eq_true rfl, Nat.le_of_ble_eq_true rfl⟩ (fun rr_315 σ315 pp_315 => ?_)
  obtain ⟨K2_, -, l2_, e2_, z2_, F2_⟩ := pp_315
  have M2_ := M1_.fz F2_ z2_ (by decide) (by decide) (by decide) (by decide) (by decide) (by decide) (by decide)
  have ek_ := l1_.uniq l2_
  subst ek_
  exact V.icmp_eq C 717 dL_law_318 rfl (fun _ => go σ315 ⟨n, ch, P, hs, sl, S1_.fm F2_ (by decide), M2_, hwH, hwS⟩) (fun hne_ => absurd (e1_.trans e2_.symm) hne_)
set_option maxRecDepth 100000 in
set_option maxHeartbeats 4000000 in
theorem law_sliceStart (G : Gl) (X : Cx0) (C : Cx G X cL_law 4 "SliceSolverLaw" 13 478 600000 7302250) (b L : Nat) (xs : Nat → Int32) (hX : va_X b L xs (xS X) (xS X).heap) (hbl : b < (xS X).heap.size) (hG : G.1 = (xS X).heap.size) (hL : L ≤ 2560) (i : Nat) (hi : i + 5 ≤ L) (σ : SS) (hI : InvL σ) (go : ∀ σ1, InvL σ1 → V G X 4 136 11551 717 [(0, .ref b), (1, Rf G 0), (2, Rf G 123), (3, .int (nI i))] [] (wld G σ1)) : V G X 4 136 11551 323 [(0, .ref b), (1, Rf G 0), (2, Rf G 123), (3, .int (nI i))] [] (wld G σ) := by
  obtain ⟨n, ch, P, hs, sl, hS, hM, hwH, hwS⟩ := hI
  have hC := hS.1
  have hW := hC.2.1
  have kk_0 := sk_0
  have kk_123 := sk_123
  refine V.aload_n C 1 rfl rfl dL_law_323 ?_
  refine V.rload_n C 0 rfl rfl dL_law_324 ?_
  refine V.iload_n C 3 rfl rfl dL_law_325 ?_
  refine V.iconst C (nI 1) c_1 dL_law_326 ?_
  refine V.iadd C dL_law_327 ?_
  rw [nI_add]
  refine V.sld C hX hbl hG (i + 1) (by omega) (by omega) dL_law_328 ?_
  refine V.rload_n C 0 rfl rfl dL_law_329 ?_
  refine V.iload_n C 3 rfl rfl dL_law_330 ?_
  refine V.iconst C (nI 2) c_2 dL_law_331 ?_
  refine V.iadd C dL_law_332 ?_
  rw [nI_add]
  refine V.sld C hX hbl hG (i + 2) (by omega) (by omega) dL_law_333 ?_
  refine V.cVi C lL_51 oX9_sliceStart dL_law_334 (ct_S_sliceStart G σ P (xs (i + 1)) (xs (i + 2)) hC) (by assumption) rfl rfl (Nat.le_of_ble_eq_true rfl) ⟨Nat.le_of_ble_eq_true rfl, Nat.le_of_ble_eq_true rfl⟩ ⟨Nat.le_of_ble_eq_true rfl, Nat.le_of_ble_eq_true rfl⟩ (fun rr_334 σ334 pp_334 => ?_)
  obtain ⟨K_, l1_, e1_, f1_⟩ := pp_334
  have S1_ : IS σ334 n ch P hs sl := by rw [f1_]; exact hS
  have M1_ : IM σ334 n ch P hs sl := by rw [f1_]; exact hM
  obtain ⟨c0_, h0_⟩ := M1_.2.2.2.2
  refine V.aload_n C 2 rfl rfl dL_law_337 ?_
  refine V.rload_n C 0 rfl rfl dL_law_338 ?_
  refine V.iload_n C 3 rfl rfl dL_law_339 ?_
  refine V.iconst C (nI 1) c_1 dL_law_340 ?_
  refine V.iadd C dL_law_341 ?_
  rw [nI_add]
  refine V.sld C hX hbl hG (i + 1) (by omega) (by omega) dL_law_342 ?_
  refine V.rload_n C 0 rfl rfl dL_law_343 ?_
  refine V.iload_n C 3 rfl rfl dL_law_344 ?_
  refine V.iconst C (nI 2) c_2 dL_law_345 ?_
  refine V.iadd C dL_law_346 ?_
  rw [nI_add]
  refine V.sld C hX hbl hG (i + 2) (by omega) (by omega) dL_law_347 ?_
  refine V.cVi C lL_55 oX10_sliceStart dL_law_348 (ct_M_sliceStart G _ P c0_ (xs (i + 1)) (xs (i + 2)) M1_.2.1 hW h0_) (by assumption) rfl rfl (Nat.le_of_ble_eq_true rfl) ⟨Nat.le_of_ble_eq_true rfl, Nat.le_of_ble_eq_true rfl⟩ ⟨Nat.le_of_ble_eq_true rfl, Nat.le_of_ble_eq_true rfl⟩ (fun rr_348 σ348 pp_348 => ?_)
  obtain ⟨K2_, -, l2_, e2_, z2_, F2_⟩ := pp_348
  have M2_ := M1_.fz F2_ z2_ (by decide) (by decide) (by decide) (by decide) (by decide) (by decide) (by decide)
  have ek_ := l1_.uniq l2_
  subst ek_
  exact V.icmp_eq C 717 dL_law_351 rfl (fun _ => go σ348 ⟨n, ch, P, hs, sl, S1_.fm F2_ (by decide), M2_, hwH, hwS⟩) (fun hne_ => absurd (e1_.uniq e2_) hne_)
set_option maxRecDepth 100000 in
set_option maxHeartbeats 4000000 in
theorem law_sliceWidth (G : Gl) (X : Cx0) (C : Cx G X cL_law 4 "SliceSolverLaw" 13 478 600000 7302250) (b L : Nat) (xs : Nat → Int32) (hX : va_X b L xs (xS X) (xS X).heap) (hbl : b < (xS X).heap.size) (hG : G.1 = (xS X).heap.size) (hL : L ≤ 2560) (i : Nat) (hi : i + 5 ≤ L) (σ : SS) (hI : InvL σ) (go : ∀ σ1, InvL σ1 → V G X 4 136 11551 717 [(0, .ref b), (1, Rf G 0), (2, Rf G 123), (3, .int (nI i))] [] (wld G σ1)) : V G X 4 136 11551 356 [(0, .ref b), (1, Rf G 0), (2, Rf G 123), (3, .int (nI i))] [] (wld G σ) := by
  obtain ⟨n, ch, P, hs, sl, hS, hM, hwH, hwS⟩ := hI
  have hC := hS.1
  have hW := hC.2.1
  have kk_0 := sk_0
  have kk_123 := sk_123
  refine V.aload_n C 1 rfl rfl dL_law_356 ?_
  refine V.rload_n C 0 rfl rfl dL_law_357 ?_
  refine V.iload_n C 3 rfl rfl dL_law_358 ?_
  refine V.iconst C (nI 1) c_1 dL_law_359 ?_
  refine V.iadd C dL_law_360 ?_
  rw [nI_add]
  refine V.sld C hX hbl hG (i + 1) (by omega) (by omega) dL_law_361 ?_
  refine V.rload_n C 0 rfl rfl dL_law_362 ?_
  refine V.iload_n C 3 rfl rfl dL_law_363 ?_
  refine V.iconst C (nI 2) c_2 dL_law_364 ?_
  refine V.iadd C dL_law_365 ?_
  rw [nI_add]
  refine V.sld C hX hbl hG (i + 2) (by omega) (by omega) dL_law_366 ?_
  refine V.cVi C lL_56 oX9_sliceWidth dL_law_367 (ct_S_sliceWidth G σ P (xs (i + 1)) (xs (i + 2)) hC) (by assumption) rfl rfl (Nat.le_of_ble_eq_true rfl) ⟨Nat.le_of_ble_eq_true rfl, Nat.le_of_ble_eq_true rfl⟩ ⟨Nat.le_of_ble_eq_true rfl, Nat.le_of_ble_eq_true rfl⟩ (fun rr_367 σ367 pp_367 => ?_)
  obtain ⟨K_, l1_, e1_, f1_⟩ := pp_367
  have S1_ : IS σ367 n ch P hs sl := by rw [f1_]; exact hS
  have M1_ : IM σ367 n ch P hs sl := by rw [f1_]; exact hM
  obtain ⟨c0_, h0_⟩ := M1_.2.2.2.2
  refine V.aload_n C 2 rfl rfl dL_law_370 ?_
  refine V.rload_n C 0 rfl rfl dL_law_371 ?_
  refine V.iload_n C 3 rfl rfl dL_law_372 ?_
  refine V.iconst C (nI 1) c_1 dL_law_373 ?_
  refine V.iadd C dL_law_374 ?_
  rw [nI_add]
  refine V.sld C hX hbl hG (i + 1) (by omega) (by omega) dL_law_375 ?_
  refine V.rload_n C 0 rfl rfl dL_law_376 ?_
  refine V.iload_n C 3 rfl rfl dL_law_377 ?_
  refine V.iconst C (nI 2) c_2 dL_law_378 ?_
  refine V.iadd C dL_law_379 ?_
  rw [nI_add]
  refine V.sld C hX hbl hG (i + 2) (by omega) (by omega) dL_law_380 ?_
  refine V.cVi C lL_59 oX10_sliceWidth dL_law_381 (ct_M_sliceWidth G _ P c0_ (xs (i + 1)) (xs (i + 2)) M1_.2.1 hW h0_) (by assumption) rfl rfl (Nat.le_of_ble_eq_true rfl) ⟨Nat.le_of_ble_eq_true rfl, Nat.le_of_ble_eq_true rfl⟩ ⟨Nat.le_of_ble_eq_true rfl, Nat.le_of_ble_eq_true rfl⟩ (fun rr_381 σ381 pp_381 => ?_)
  obtain ⟨K2_, -, l2_, e2_, z2_, F2_⟩ := pp_381
  have M2_ := M1_.fz F2_ z2_ (by decide) (by decide) (by decide) (by decide) (by decide) (by decide) (by decide)
  have ek_ := l1_.uniq l2_
  subst ek_
  exact V.icmp_eq C 717 dL_law_384 rfl (fun _ => go σ381 ⟨n, ch, P, hs, sl, S1_.fm F2_ (by decide), M2_, hwH, hwS⟩) (fun hne_ => absurd (e1_.uniq hW l1_ e2_) hne_)
set_option maxRecDepth 100000 in
set_option maxHeartbeats 4000000 in
theorem law_representative (G : Gl) (X : Cx0) (C : Cx G X cL_law 4 "SliceSolverLaw" 13 478 600000 7302250) (b L : Nat) (xs : Nat → Int32) (hX : va_X b L xs (xS X) (xS X).heap) (hbl : b < (xS X).heap.size) (hG : G.1 = (xS X).heap.size) (hL : L ≤ 2560) (i : Nat) (hi : i + 5 ≤ L) (σ : SS) (hI : InvL σ) (go : ∀ σ1, InvL σ1 → V G X 4 136 11551 717 [(0, .ref b), (1, Rf G 0), (2, Rf G 123), (3, .int (nI i))] [] (wld G σ1)) : V G X 4 136 11551 389 [(0, .ref b), (1, Rf G 0), (2, Rf G 123), (3, .int (nI i))] [] (wld G σ) := by
  obtain ⟨n, ch, P, hs, sl, hS, hM, hwH, hwS⟩ := hI
  have hC := hS.1
  have hW := hC.2.1
  have kk_0 := sk_0
  have kk_123 := sk_123
  refine V.aload_n C 1 rfl rfl dL_law_389 ?_
  refine V.rload_n C 0 rfl rfl dL_law_390 ?_
  refine V.iload_n C 3 rfl rfl dL_law_391 ?_
  refine V.iconst C (nI 1) c_1 dL_law_392 ?_
  refine V.iadd C dL_law_393 ?_
  rw [nI_add]
  refine V.sld C hX hbl hG (i + 1) (by omega) (by omega) dL_law_394 ?_
  refine V.rload_n C 0 rfl rfl dL_law_395 ?_
  refine V.iload_n C 3 rfl rfl dL_law_396 ?_
  refine V.iconst C (nI 2) c_2 dL_law_397 ?_
  refine V.iadd C dL_law_398 ?_
  rw [nI_add]
  refine V.sld C hX hbl hG (i + 2) (by omega) (by omega) dL_law_399 ?_
  refine V.cVi C lL_60 oX9_representative dL_law_400 (ct_S_representative G σ P (xs (i + 1)) (xs (i + 2)) hC) (by assumption) rfl rfl (Nat.le_of_ble_eq_true rfl) ⟨Nat.le_of_ble_eq_true rfl, Nat.le_of_ble_eq_true rfl⟩ ⟨Nat.le_of_ble_eq_true rfl, Nat.le_of_ble_eq_true rfl⟩ (fun rr_400 σ400 pp_400 => ?_)
  obtain ⟨K_, l1_, e1_, c1_, q1_⟩ := pp_400
  obtain ⟨S1_, m1_⟩ := hS.q c1_ q1_
  have M1_ := hM.sm m1_
  obtain ⟨c0_, h0_⟩ := M1_.2.2.2.2
  refine V.aload_n C 2 rfl rfl dL_law_403 ?_
  refine V.rload_n C 0 rfl rfl dL_law_404 ?_
  refine V.iload_n C 3 rfl rfl dL_law_405 ?_
  refine V.iconst C (nI 1) c_1 dL_law_406 ?_
  refine V.iadd C dL_law_407 ?_
  rw [nI_add]
  refine V.sld C hX hbl hG (i + 1) (by omega) (by omega) dL_law_408 ?_
  refine V.rload_n C 0 rfl rfl dL_law_409 ?_
  refine V.iload_n C 3 rfl rfl dL_law_410 ?_
  refine V.iconst C (nI 2) c_2 dL_law_411 ?_
  refine V.iadd C dL_law_412 ?_
  rw [nI_add]
  refine V.sld C hX hbl hG (i + 2) (by omega) (by omega) dL_law_413 ?_
  refine V.cVi C lL_63 oX10_representative dL_law_414 (ct_M_representative G _ P c0_ (xs (i + 1)) (xs (i + 2)) M1_.2.1 hW h0_) (by assumption) rfl rfl (Nat.le_of_ble_eq_true rfl) ⟨Nat.le_of_ble_eq_true rfl, Nat.le_of_ble_eq_true rfl⟩ ⟨Nat.le_of_ble_eq_true rfl, Nat.le_of_ble_eq_true rfl⟩ (fun rr_414 σ414 pp_414 => ?_)
  obtain ⟨K2_, -, l2_, e2_, z2_, F2_⟩ := pp_414
  have M2_ := M1_.fz F2_ z2_ (by decide) (by decide) (by decide) (by decide) (by decide) (by decide) (by decide)
  have ek_ := l1_.uniq l2_
  subst ek_
  exact V.icmp_eq C 717 dL_law_417 rfl (fun _ => go σ414 ⟨n, ch, P, hs, sl, S1_.fm F2_ (by decide), M2_, hwH, hwS⟩) (fun hne_ => absurd (e1_.uniq e2_) hne_)
set_option maxRecDepth 100000 in
set_option maxHeartbeats 4000000 in
theorem law_classCount (G : Gl) (X : Cx0) (C : Cx G X cL_law 4 "SliceSolverLaw" 13 478 600000 7302250) (b L : Nat) (xs : Nat → Int32) (hX : va_X b L xs (xS X) (xS X).heap) (hbl : b < (xS X).heap.size) (hG : G.1 = (xS X).heap.size) (hL : L ≤ 2560) (i : Nat) (hi : i + 5 ≤ L) (σ : SS) (hI : InvL σ) (go : ∀ σ1, InvL σ1 → V G X 4 136 11551 717 [(0, .ref b), (1, Rf G 0), (2, Rf G 123), (3, .int (nI i))] [] (wld G σ1)) : V G X 4 136 11551 422 [(0, .ref b), (1, Rf G 0), (2, Rf G 123), (3, .int (nI i))] [] (wld G σ) := by
  obtain ⟨n, ch, P, hs, sl, hS, hM, hwH, hwS⟩ := hI
  have hC := hS.1
  have hW := hC.2.1
  have kk_0 := sk_0
  have kk_123 := sk_123
  refine V.aload_n C 1 rfl rfl dL_law_422 ?_
  refine V.cVi C lL_64 oX9_classCount dL_law_423 (ct_S_classCount G σ P hC) (by assumption) rfl rfl (Nat.le_of_ble_eq_true rfl) ⟨Nat.le_of_ble_eq_true rfl, Nat.le_of_ble_eq_true rfl⟩ ⟨Nat.le_of_ble_eq_true rfl, Nat.le_of_ble_eq_true rfl⟩ (fun rr_423 σ423 pp_423 => ?_)
  obtain ⟨K_, l1_, e1_, c1_, q1_⟩ := pp_423
  obtain ⟨S1_, m1_⟩ := hS.q c1_ q1_
  have M1_ := hM.sm m1_
  obtain ⟨c0_, h0_⟩ := M1_.2.2.2.2
  refine V.aload_n C 2 rfl rfl dL_law_426 ?_
  refine V.cVi C lL_67 oX10_classCount dL_law_427 (ct_M_classCount G _ P c0_ M1_.2.1 hW h0_) (by assumption) rfl rfl (Nat.le_of_ble_eq_true rfl) ⟨Nat.le_of_ble_eq_true rfl, Nat.le_of_ble_eq_true rfl⟩ ⟨Nat.le_of_ble_eq_true rfl, Nat.le_of_ble_eq_true rfl⟩ (fun rr_427 σ427 pp_427 => ?_)
  obtain ⟨K2_, -, l2_, e2_, z2_, F2_⟩ := pp_427
  have M2_ := M1_.fz F2_ z2_ (by decide) (by decide) (by decide) (by decide) (by decide) (by decide) (by decide)
  have ek_ := l1_.uniq l2_
  subst ek_
  exact V.icmp_eq C 717 dL_law_430 rfl (fun _ => go σ427 ⟨n, ch, P, hs, sl, S1_.fm F2_ (by decide), M2_, hwH, hwS⟩) (fun hne_ => absurd (e1_.trans e2_.symm) hne_)
set_option maxRecDepth 100000 in
set_option maxHeartbeats 4000000 in
theorem law_isConsistent (G : Gl) (X : Cx0) (C : Cx G X cL_law 4 "SliceSolverLaw" 13 478 600000 7302250) (b L : Nat) (xs : Nat → Int32) (hX : va_X b L xs (xS X) (xS X).heap) (hbl : b < (xS X).heap.size) (hG : G.1 = (xS X).heap.size) (hL : L ≤ 2560) (i : Nat) (hi : i + 5 ≤ L) (σ : SS) (hI : InvL σ) (go : ∀ σ1, InvL σ1 → V G X 4 136 11551 717 [(0, .ref b), (1, Rf G 0), (2, Rf G 123), (3, .int (nI i))] [] (wld G σ1)) : V G X 4 136 11551 435 [(0, .ref b), (1, Rf G 0), (2, Rf G 123), (3, .int (nI i))] [] (wld G σ) := by
  obtain ⟨n, ch, P, hs, sl, hS, hM, hwH, hwS⟩ := hI
  have hC := hS.1
  have hW := hC.2.1
  have kk_0 := sk_0
  have kk_123 := sk_123
  refine V.aload_n C 1 rfl rfl dL_law_435 ?_
  refine V.cVi C lL_68 oX9_isConsistent dL_law_436 (ct_S_isConsistent G σ P hC) (by assumption) rfl rfl (Nat.le_of_ble_eq_true rfl) ⟨Nat.le_of_ble_eq_true rfl, Nat.le_of_ble_eq_true rfl⟩ ⟨Nat.le_of_ble_eq_true rfl, Nat.le_of_ble_eq_true rfl⟩ (fun rr_436 σ436 pp_436 => ?_)
  obtain ⟨e1_, f1_⟩ := pp_436
  have S1_ : IS σ436 n ch P hs sl := by rw [f1_]; exact hS
  have M1_ : IM σ436 n ch P hs sl := by rw [f1_]; exact hM
  refine V.aload_n C 2 rfl rfl dL_law_439 ?_
  refine V.cVi C lL_71 oX10_isConsistent dL_law_440 (ct_M_isConsistent G _ P M1_.2.1 hW) (by assumption) rfl rfl (Nat.le_of_ble_eq_true rfl) ⟨Nat.le_of_ble_eq_true rfl, Nat.le_of_ble_eq_true rfl⟩ ⟨Nat.le_of_ble_eq_true rfl, Nat.le_of_ble_eq_true rfl⟩ (fun rr_440 σ440 pp_440 => ?_)
  obtain ⟨e2_, F2_⟩ := pp_440
  have M2_ := M1_.fm F2_ (by decide) (by decide) (by decide) (by decide) (by decide) (by decide) (by decide) (by decide)
  exact V.icmp_eq C 717 dL_law_443 rfl (fun _ => go σ440 ⟨n, ch, P, hs, sl, S1_.fm F2_ (by decide), M2_, hwH, hwS⟩) (fun hne_ => absurd (e1_.trans e2_.symm) hne_)
set_option maxRecDepth 100000 in
set_option maxHeartbeats 4000000 in
theorem law_firstConflict (G : Gl) (X : Cx0) (C : Cx G X cL_law 4 "SliceSolverLaw" 13 478 600000 7302250) (b L : Nat) (xs : Nat → Int32) (hX : va_X b L xs (xS X) (xS X).heap) (hbl : b < (xS X).heap.size) (hG : G.1 = (xS X).heap.size) (hL : L ≤ 2560) (i : Nat) (hi : i + 5 ≤ L) (σ : SS) (hI : InvL σ) (go : ∀ σ1, InvL σ1 → V G X 4 136 11551 717 [(0, .ref b), (1, Rf G 0), (2, Rf G 123), (3, .int (nI i))] [] (wld G σ1)) : V G X 4 136 11551 448 [(0, .ref b), (1, Rf G 0), (2, Rf G 123), (3, .int (nI i))] [] (wld G σ) := by
  obtain ⟨n, ch, P, hs, sl, hS, hM, hwH, hwS⟩ := hI
  have hC := hS.1
  have hW := hC.2.1
  have kk_0 := sk_0
  have kk_123 := sk_123
  refine V.aload_n C 1 rfl rfl dL_law_448 ?_
  refine V.cVi C lL_72 oX9_firstConflict dL_law_449 (ct_S_firstConflict G σ P hC) (by assumption) rfl rfl (Nat.le_of_ble_eq_true rfl) ⟨Nat.le_of_ble_eq_true rfl, Nat.le_of_ble_eq_true rfl⟩ ⟨Nat.le_of_ble_eq_true rfl, Nat.le_of_ble_eq_true rfl⟩ (fun rr_449 σ449 pp_449 => ?_)
  obtain ⟨e1_, c1_, q1_⟩ := pp_449
  obtain ⟨S1_, m1_⟩ := hS.q c1_ q1_
  have M1_ := hM.sm m1_
  refine V.aload_n C 2 rfl rfl dL_law_452 ?_
  refine V.cVi C lL_75 oX10_firstConflict dL_law_453 (ct_M_firstConflict G _ P M1_.2.1 hW) (by assumption) rfl rfl (Nat.le_of_ble_eq_true rfl) ⟨Nat.le_of_ble_eq_true rfl, Nat.le_of_ble_eq_true rfl⟩ ⟨Nat.le_of_ble_eq_true rfl, Nat.le_of_ble_eq_true rfl⟩ (fun rr_453 σ453 pp_453 => ?_)
  obtain ⟨e2_, F2_⟩ := pp_453
  have M2_ := M1_.fm F2_ (by decide) (by decide) (by decide) (by decide) (by decide) (by decide) (by decide) (by decide)
  exact V.icmp_eq C 717 dL_law_456 rfl (fun _ => go σ453 ⟨n, ch, P, hs, sl, S1_.fm F2_ (by decide), M2_, hwH, hwS⟩) (fun hne_ => absurd (e1_.trans e2_.symm) hne_)
set_option maxRecDepth 100000 in
set_option maxHeartbeats 4000000 in
theorem law_conflictSet (G : Gl) (X : Cx0) (C : Cx G X cL_law 4 "SliceSolverLaw" 13 478 600000 7302250) (b L : Nat) (xs : Nat → Int32) (hX : va_X b L xs (xS X) (xS X).heap) (hbl : b < (xS X).heap.size) (hG : G.1 = (xS X).heap.size) (hL : L ≤ 2560) (i : Nat) (hi : i + 5 ≤ L) (σ : SS) (hI : InvL σ) (go : ∀ σ1, InvL σ1 → V G X 4 136 11551 717 [(0, .ref b), (1, Rf G 0), (2, Rf G 123), (3, .int (nI i))] [] (wld G σ1)) : V G X 4 136 11551 461 [(0, .ref b), (1, Rf G 0), (2, Rf G 123), (3, .int (nI i))] [] (wld G σ) := by
  obtain ⟨n, ch, P, hs, sl, hS, hM, hwH, hwS⟩ := hI
  have hC := hS.1
  have hW := hC.2.1
  have kk_0 := sk_0
  have kk_123 := sk_123
  refine V.aload_n C 1 rfl rfl dL_law_461 ?_
  refine V.cVi C lL_76 oX9_conflictSet dL_law_462 (ct_S_conflictSet G σ P hC) (by assumption) rfl rfl (Nat.le_of_ble_eq_true rfl) ⟨Nat.le_of_ble_eq_true rfl, Nat.le_of_ble_eq_true rfl⟩ ⟨Nat.le_of_ble_eq_true rfl, Nat.le_of_ble_eq_true rfl⟩ (fun rr_462 σ462 pp_462 => ?_)
  obtain ⟨e1_, c1_, q1_⟩ := pp_462
  obtain ⟨S1_, m1_⟩ := hS.q c1_ q1_
  have M1_ := hM.sm m1_
  refine V.aload_n C 2 rfl rfl dL_law_465 ?_
  refine V.cVi C lL_79 oX10_conflictSet dL_law_466 (ct_M_conflictSet G _ P M1_.2.1 hW) (by assumption) rfl rfl (Nat.le_of_ble_eq_true rfl) ⟨Nat.le_of_ble_eq_true rfl, Nat.le_of_ble_eq_true rfl⟩ ⟨Nat.le_of_ble_eq_true rfl, Nat.le_of_ble_eq_true rfl⟩ (fun rr_466 σ466 pp_466 => ?_)
  obtain ⟨e2_, F2_⟩ := pp_466
  have M2_ := M1_.fm F2_ (by decide) (by decide) (by decide) (by decide) (by decide) (by decide) (by decide) (by decide)
  exact V.icmp_eq C 717 dL_law_469 rfl (fun _ => go σ466 ⟨n, ch, P, hs, sl, S1_.fm F2_ (by decide), M2_, hwH, hwS⟩) (fun hne_ => absurd (e1_.trans e2_.symm) hne_)
set_option maxRecDepth 100000 in
set_option maxHeartbeats 4000000 in
theorem law_fixedBit (G : Gl) (X : Cx0) (C : Cx G X cL_law 4 "SliceSolverLaw" 13 478 600000 7302250) (b L : Nat) (xs : Nat → Int32) (hX : va_X b L xs (xS X) (xS X).heap) (hbl : b < (xS X).heap.size) (hG : G.1 = (xS X).heap.size) (hL : L ≤ 2560) (i : Nat) (hi : i + 5 ≤ L) (σ : SS) (hI : InvL σ) (go : ∀ σ1, InvL σ1 → V G X 4 136 11551 717 [(0, .ref b), (1, Rf G 0), (2, Rf G 123), (3, .int (nI i))] [] (wld G σ1)) : V G X 4 136 11551 474 [(0, .ref b), (1, Rf G 0), (2, Rf G 123), (3, .int (nI i))] [] (wld G σ) := by
  obtain ⟨n, ch, P, hs, sl, hS, hM, hwH, hwS⟩ := hI
  have hC := hS.1
  have hW := hC.2.1
  have kk_0 := sk_0
  have kk_123 := sk_123
  refine V.aload_n C 1 rfl rfl dL_law_474 ?_
  refine V.rload_n C 0 rfl rfl dL_law_475 ?_
  refine V.iload_n C 3 rfl rfl dL_law_476 ?_
  refine V.iconst C (nI 1) c_1 dL_law_477 ?_
  refine V.iadd C dL_law_478 ?_
  rw [nI_add]
  refine V.sld C hX hbl hG (i + 1) (by omega) (by omega) dL_law_479 ?_
  refine V.rload_n C 0 rfl rfl dL_law_480 ?_
  refine V.iload_n C 3 rfl rfl dL_law_481 ?_
  refine V.iconst C (nI 2) c_2 dL_law_482 ?_
  refine V.iadd C dL_law_483 ?_
  rw [nI_add]
  refine V.sld C hX hbl hG (i + 2) (by omega) (by omega) dL_law_484 ?_
  refine V.cVi C lL_80 oX9_fixedBit dL_law_485 (ct_S_fixedBit G σ P (xs (i + 1)) (xs (i + 2)) hC) (by assumption) rfl rfl (Nat.le_of_ble_eq_true rfl) ⟨Nat.le_of_ble_eq_true rfl, Nat.le_of_ble_eq_true rfl⟩ ⟨Nat.le_of_ble_eq_true rfl, Nat.le_of_ble_eq_true rfl⟩ (fun rr_485 σ485 pp_485 => ?_)
  obtain ⟨e1_, c1_, q1_⟩ := pp_485
  obtain ⟨S1_, m1_⟩ := hS.q c1_ q1_
  have M1_ := hM.sm m1_
  refine V.aload_n C 2 rfl rfl dL_law_488 ?_
  refine V.rload_n C 0 rfl rfl dL_law_489 ?_
  refine V.iload_n C 3 rfl rfl dL_law_490 ?_
  refine V.iconst C (nI 1) c_1 dL_law_491 ?_
  refine V.iadd C dL_law_492 ?_
  rw [nI_add]
  refine V.sld C hX hbl hG (i + 1) (by omega) (by omega) dL_law_493 ?_
  refine V.rload_n C 0 rfl rfl dL_law_494 ?_
  refine V.iload_n C 3 rfl rfl dL_law_495 ?_
  refine V.iconst C (nI 2) c_2 dL_law_496 ?_
  refine V.iadd C dL_law_497 ?_
  rw [nI_add]
  refine V.sld C hX hbl hG (i + 2) (by omega) (by omega) dL_law_498 ?_
  refine V.cVi C lL_83 oX10_fixedBit dL_law_499 (ct_M_fixedBit G _ P (xs (i + 1)) (xs (i + 2)) M1_.2.1 hW) (by assumption) rfl rfl (Nat.le_of_ble_eq_true rfl) ⟨Nat.le_of_ble_eq_true rfl, Nat.le_of_ble_eq_true rfl⟩ ⟨Nat.le_of_ble_eq_true rfl, Nat.le_of_ble_eq_true rfl⟩ (fun rr_499 σ499 pp_499 => ?_)
  obtain ⟨e2_, F2_⟩ := pp_499
  have M2_ := M1_.fm F2_ (by decide) (by decide) (by decide) (by decide) (by decide) (by decide) (by decide) (by decide)
  exact V.icmp_eq C 717 dL_law_502 rfl (fun _ => go σ499 ⟨n, ch, P, hs, sl, S1_.fm F2_ (by decide), M2_, hwH, hwS⟩) (fun hne_ => absurd (e1_.trans e2_.symm) hne_)
set_option maxRecDepth 100000 in
set_option maxHeartbeats 4000000 in
theorem law_compareBits (G : Gl) (X : Cx0) (C : Cx G X cL_law 4 "SliceSolverLaw" 13 478 600000 7302250) (b L : Nat) (xs : Nat → Int32) (hX : va_X b L xs (xS X) (xS X).heap) (hbl : b < (xS X).heap.size) (hG : G.1 = (xS X).heap.size) (hL : L ≤ 2560) (i : Nat) (hi : i + 5 ≤ L) (σ : SS) (hI : InvL σ) (go : ∀ σ1, InvL σ1 → V G X 4 136 11551 717 [(0, .ref b), (1, Rf G 0), (2, Rf G 123), (3, .int (nI i))] [] (wld G σ1)) : V G X 4 136 11551 507 [(0, .ref b), (1, Rf G 0), (2, Rf G 123), (3, .int (nI i))] [] (wld G σ) := by
  obtain ⟨n, ch, P, hs, sl, hS, hM, hwH, hwS⟩ := hI
  have hC := hS.1
  have hW := hC.2.1
  have kk_0 := sk_0
  have kk_123 := sk_123
  refine V.aload_n C 1 rfl rfl dL_law_507 ?_
  refine V.rload_n C 0 rfl rfl dL_law_508 ?_
  refine V.iload_n C 3 rfl rfl dL_law_509 ?_
  refine V.iconst C (nI 1) c_1 dL_law_510 ?_
  refine V.iadd C dL_law_511 ?_
  rw [nI_add]
  refine V.sld C hX hbl hG (i + 1) (by omega) (by omega) dL_law_512 ?_
  refine V.rload_n C 0 rfl rfl dL_law_513 ?_
  refine V.iload_n C 3 rfl rfl dL_law_514 ?_
  refine V.iconst C (nI 2) c_2 dL_law_515 ?_
  refine V.iadd C dL_law_516 ?_
  rw [nI_add]
  refine V.sld C hX hbl hG (i + 2) (by omega) (by omega) dL_law_517 ?_
  refine V.rload_n C 0 rfl rfl dL_law_518 ?_
  refine V.iload_n C 3 rfl rfl dL_law_519 ?_
  refine V.iconst C (nI 3) c_3 dL_law_520 ?_
  refine V.iadd C dL_law_521 ?_
  rw [nI_add]
  refine V.sld C hX hbl hG (i + 3) (by omega) (by omega) dL_law_522 ?_
  refine V.rload_n C 0 rfl rfl dL_law_523 ?_
  refine V.iload_n C 3 rfl rfl dL_law_524 ?_
  refine V.iconst C (nI 4) c_4 dL_law_525 ?_
  refine V.iadd C dL_law_526 ?_
  rw [nI_add]
  refine V.sld C hX hbl hG (i + 4) (by omega) (by omega) dL_law_527 ?_
  refine V.cVi C lL_84 oX9_compareBits dL_law_528 (ct_S_compareBits G σ P (xs (i + 1)) (xs (i + 2)) (xs (i + 3)) (xs (i + 4)) hC) (by assumption) rfl rfl (Nat.le_of_ble_eq_true rfl) ⟨Nat.le_of_ble_eq_true rfl, Nat.le_of_ble_eq_true rfl⟩ ⟨Nat.le_of_ble_eq_true rfl, Nat.le_of_ble_eq_true rfl⟩ (fun rr_528 σ528 pp_528 => ?_)
  obtain ⟨e1_, c1_, q1_⟩ := pp_528
  obtain ⟨S1_, m1_⟩ := hS.q c1_ q1_
  have M1_ := hM.sm m1_
  refine V.aload_n C 2 rfl rfl dL_law_531 ?_
  refine V.rload_n C 0 rfl rfl dL_law_532 ?_
  refine V.iload_n C 3 rfl rfl dL_law_533 ?_
  refine V.iconst C (nI 1) c_1 dL_law_534 ?_
  refine V.iadd C dL_law_535 ?_
  rw [nI_add]
  refine V.sld C hX hbl hG (i + 1) (by omega) (by omega) dL_law_536 ?_
  refine V.rload_n C 0 rfl rfl dL_law_537 ?_
  refine V.iload_n C 3 rfl rfl dL_law_538 ?_
  refine V.iconst C (nI 2) c_2 dL_law_539 ?_
  refine V.iadd C dL_law_540 ?_
  rw [nI_add]
  refine V.sld C hX hbl hG (i + 2) (by omega) (by omega) dL_law_541 ?_
  refine V.rload_n C 0 rfl rfl dL_law_542 ?_
  refine V.iload_n C 3 rfl rfl dL_law_543 ?_
  refine V.iconst C (nI 3) c_3 dL_law_544 ?_
  refine V.iadd C dL_law_545 ?_
  rw [nI_add]
  refine V.sld C hX hbl hG (i + 3) (by omega) (by omega) dL_law_546 ?_
  refine V.rload_n C 0 rfl rfl dL_law_547 ?_
  refine V.iload_n C 3 rfl rfl dL_law_548 ?_
  refine V.iconst C (nI 4) c_4 dL_law_549 ?_
  refine V.iadd C dL_law_550 ?_
  rw [nI_add]
  refine V.sld C hX hbl hG (i + 4) (by omega) (by omega) dL_law_551 ?_
  refine V.cVi C lL_88 oX10_compareBits dL_law_552 (ct_M_compareBits G _ P (xs (i + 1)) (xs (i + 2)) (xs (i + 3)) (xs (i + 4)) M1_.2.1 hW) (by assumption) rfl rfl (Nat.le_of_ble_eq_true rfl) ⟨Nat.le_of_ble_eq_true rfl, Nat.le_of_ble_eq_true rfl⟩ ⟨Nat.le_of_ble_eq_true rfl, Nat.le_of_ble_eq_true rfl⟩ (fun rr_552 σ552 pp_552 => ?_)
  obtain ⟨e2_, F2_⟩ := pp_552
  have M2_ := M1_.fm F2_ (by decide) (by decide) (by decide) (by decide) (by decide) (by decide) (by decide) (by decide)
  exact V.icmp_eq C 717 dL_law_555 rfl (fun _ => go σ552 ⟨n, ch, P, hs, sl, S1_.fm F2_ (by decide), M2_, hwH, hwS⟩) (fun hne_ => absurd (e1_.trans e2_.symm) hne_)
set_option maxRecDepth 100000 in
set_option maxHeartbeats 4000000 in
theorem law_freeBits (G : Gl) (X : Cx0) (C : Cx G X cL_law 4 "SliceSolverLaw" 13 478 600000 7302250) (b L : Nat) (xs : Nat → Int32) (hX : va_X b L xs (xS X) (xS X).heap) (hbl : b < (xS X).heap.size) (hG : G.1 = (xS X).heap.size) (hL : L ≤ 2560) (i : Nat) (hi : i + 5 ≤ L) (σ : SS) (hI : InvL σ) (go : ∀ σ1, InvL σ1 → V G X 4 136 11551 717 [(0, .ref b), (1, Rf G 0), (2, Rf G 123), (3, .int (nI i))] [] (wld G σ1)) : V G X 4 136 11551 560 [(0, .ref b), (1, Rf G 0), (2, Rf G 123), (3, .int (nI i))] [] (wld G σ) := by
  obtain ⟨n, ch, P, hs, sl, hS, hM, hwH, hwS⟩ := hI
  have hC := hS.1
  have hW := hC.2.1
  have kk_0 := sk_0
  have kk_123 := sk_123
  refine V.aload_n C 1 rfl rfl dL_law_560 ?_
  refine V.cVi C lL_89 oX9_freeBits dL_law_561 (ct_S_freeBits G σ P hC) (by assumption) rfl rfl (Nat.le_of_ble_eq_true rfl) ⟨Nat.le_of_ble_eq_true rfl, Nat.le_of_ble_eq_true rfl⟩ ⟨Nat.le_of_ble_eq_true rfl, Nat.le_of_ble_eq_true rfl⟩ (fun rr_561 σ561 pp_561 => ?_)
  obtain ⟨e1_, c1_, q1_⟩ := pp_561
  obtain ⟨S1_, m1_⟩ := hS.q c1_ q1_
  have M1_ := hM.sm m1_
  refine V.aload_n C 2 rfl rfl dL_law_564 ?_
  refine V.cVi C lL_92 oX10_freeBits dL_law_565 (ct_M_freeBits G _ P M1_.2.1 hW) (by assumption) rfl rfl (Nat.le_of_ble_eq_true rfl) ⟨Nat.le_of_ble_eq_true rfl, Nat.le_of_ble_eq_true rfl⟩ ⟨Nat.le_of_ble_eq_true rfl, Nat.le_of_ble_eq_true rfl⟩ (fun rr_565 σ565 pp_565 => ?_)
  obtain ⟨e2_, F2_⟩ := pp_565
  have M2_ := M1_.fm F2_ (by decide) (by decide) (by decide) (by decide) (by decide) (by decide) (by decide) (by decide)
  exact V.icmp_eq C 717 dL_law_568 rfl (fun _ => go σ565 ⟨n, ch, P, hs, sl, S1_.fm F2_ (by decide), M2_, hwH, hwS⟩) (fun hne_ => absurd (e1_.trans e2_.symm) hne_)
set_option maxRecDepth 100000 in
set_option maxHeartbeats 4000000 in
theorem law_isSatisfiable (G : Gl) (X : Cx0) (C : Cx G X cL_law 4 "SliceSolverLaw" 13 478 600000 7302250) (b L : Nat) (xs : Nat → Int32) (hX : va_X b L xs (xS X) (xS X).heap) (hbl : b < (xS X).heap.size) (hG : G.1 = (xS X).heap.size) (hL : L ≤ 2560) (i : Nat) (hi : i + 5 ≤ L) (σ : SS) (hI : InvL σ) (go : ∀ σ1, InvL σ1 → V G X 4 136 11551 717 [(0, .ref b), (1, Rf G 0), (2, Rf G 123), (3, .int (nI i))] [] (wld G σ1)) : V G X 4 136 11551 573 [(0, .ref b), (1, Rf G 0), (2, Rf G 123), (3, .int (nI i))] [] (wld G σ) := by
  obtain ⟨n, ch, P, hs, sl, hS, hM, hwH, hwS⟩ := hI
  have hC := hS.1
  have hW := hC.2.1
  have kk_0 := sk_0
  have kk_123 := sk_123
  refine V.aload_n C 1 rfl rfl dL_law_573 ?_
  refine V.cVi C lL_93 oX9_isSatisfiable dL_law_574 (ct_S_isSat G σ P hC) (by assumption) rfl rfl (Nat.le_of_ble_eq_true rfl) ⟨Nat.le_of_ble_eq_true rfl, Nat.le_of_ble_eq_true rfl⟩ ⟨Nat.le_of_ble_eq_true rfl, Nat.le_of_ble_eq_true rfl⟩ (fun rr_574 σ574 pp_574 => ?_)
  obtain ⟨e1_, c1_, q1_⟩ := pp_574
  obtain ⟨S1_, m1_⟩ := hS.q c1_ q1_
  have M1_ := hM.sm m1_
  refine V.aload_n C 2 rfl rfl dL_law_577 ?_
  refine V.cVi C lL_96 oX10_isSatisfiable dL_law_578 (ct_M_isSat G _ P M1_.2.1 hW) (by assumption) rfl rfl (Nat.le_of_ble_eq_true rfl) ⟨Nat.le_of_ble_eq_true rfl, Nat.le_of_ble_eq_true rfl⟩ ⟨Nat.le_of_ble_eq_true rfl, Nat.le_of_ble_eq_true rfl⟩ (fun rr_578 σ578 pp_578 => ?_)
  obtain ⟨e2_, F2_⟩ := pp_578
  have M2_ := M1_.fm F2_ (by decide) (by decide) (by decide) (by decide) (by decide) (by decide) (by decide) (by decide)
  exact V.icmp_eq C 717 dL_law_581 rfl (fun _ => go σ578 ⟨n, ch, P, hs, sl, S1_.fm F2_ (by decide), M2_, hwH, hwS⟩) (fun hne_ => absurd (e1_.trans e2_.symm) hne_)
set_option maxRecDepth 100000 in
set_option maxHeartbeats 4000000 in
theorem law_oneBits (G : Gl) (X : Cx0) (C : Cx G X cL_law 4 "SliceSolverLaw" 13 478 600000 7302250) (b L : Nat) (xs : Nat → Int32) (hX : va_X b L xs (xS X) (xS X).heap) (hbl : b < (xS X).heap.size) (hG : G.1 = (xS X).heap.size) (hL : L ≤ 2560) (i : Nat) (hi : i + 5 ≤ L) (σ : SS) (hI : InvL σ) (go : ∀ σ1, InvL σ1 → V G X 4 136 11551 717 [(0, .ref b), (1, Rf G 0), (2, Rf G 123), (3, .int (nI i))] [] (wld G σ1)) : V G X 4 136 11551 586 [(0, .ref b), (1, Rf G 0), (2, Rf G 123), (3, .int (nI i))] [] (wld G σ) := by
  obtain ⟨n, ch, P, hs, sl, hS, hM, hwH, hwS⟩ := hI
  have hC := hS.1
  have hW := hC.2.1
  have kk_0 := sk_0
  have kk_123 := sk_123
  refine V.aload_n C 1 rfl rfl dL_law_586 ?_
  refine V.cVi C lL_97 oX9_oneBits dL_law_587 (ct_S_oneBits G σ P hC) (by assumption) rfl rfl (Nat.le_of_ble_eq_true rfl) ⟨Nat.le_of_ble_eq_true rfl, Nat.le_of_ble_eq_true rfl⟩ ⟨Nat.le_of_ble_eq_true rfl, Nat.le_of_ble_eq_true rfl⟩ (fun rr_587 σ587 pp_587 => ?_)
  obtain ⟨e1_, c1_, q1_⟩ := pp_587
  obtain ⟨S1_, m1_⟩ := hS.q c1_ q1_
  have M1_ := hM.sm m1_
  refine V.aload_n C 2 rfl rfl dL_law_590 ?_
  refine V.cVi C lL_100 oX10_oneBits dL_law_591 (ct_M_oneBits G _ P M1_.2.1 hW) (by assumption) rfl rfl (Nat.le_of_ble_eq_true rfl) ⟨Nat.le_of_ble_eq_true rfl, Nat.le_of_ble_eq_true rfl⟩ ⟨Nat.le_of_ble_eq_true rfl, Nat.le_of_ble_eq_true rfl⟩ (fun rr_591 σ591 pp_591 => ?_)
  obtain ⟨e2_, F2_⟩ := pp_591
  have M2_ := M1_.fm F2_ (by decide) (by decide) (by decide) (by decide) (by decide) (by decide) (by decide) (by decide)
  exact V.icmp_eq C 717 dL_law_594 rfl (fun _ => go σ591 ⟨n, ch, P, hs, sl, S1_.fm F2_ (by decide), M2_, hwH, hwS⟩) (fun hne_ => absurd (e1_.trans e2_.symm) hne_)
set_option maxRecDepth 100000 in
set_option maxHeartbeats 4000000 in
theorem law_value (G : Gl) (X : Cx0) (C : Cx G X cL_law 4 "SliceSolverLaw" 13 478 600000 7302250) (b L : Nat) (xs : Nat → Int32) (hX : va_X b L xs (xS X) (xS X).heap) (hbl : b < (xS X).heap.size) (hG : G.1 = (xS X).heap.size) (hL : L ≤ 2560) (i : Nat) (hi : i + 5 ≤ L) (σ : SS) (hI : InvL σ) (go : ∀ σ1, InvL σ1 → V G X 4 136 11551 717 [(0, .ref b), (1, Rf G 0), (2, Rf G 123), (3, .int (nI i))] [] (wld G σ1)) : V G X 4 136 11551 599 [(0, .ref b), (1, Rf G 0), (2, Rf G 123), (3, .int (nI i))] [] (wld G σ) := by
  obtain ⟨n, ch, P, hs, sl, hS, hM, hwH, hwS⟩ := hI
  have hC := hS.1
  have hW := hC.2.1
  have kk_0 := sk_0
  have kk_123 := sk_123
  refine V.aload_n C 1 rfl rfl dL_law_599 ?_
  refine V.rload_n C 0 rfl rfl dL_law_600 ?_
  refine V.iload_n C 3 rfl rfl dL_law_601 ?_
  refine V.iconst C (nI 1) c_1 dL_law_602 ?_
  refine V.iadd C dL_law_603 ?_
  rw [nI_add]
  refine V.sld C hX hbl hG (i + 1) (by omega) (by omega) dL_law_604 ?_
  refine V.cVi C lL_101 oX9_value dL_law_605 (ct_S_value G σ P (xs (i + 1)) hC) (by assumption) rfl rfl (Nat.le_of_ble_eq_true rfl) ⟨Nat.le_of_ble_eq_true rfl, Nat.le_of_ble_eq_true rfl⟩ ⟨Nat.le_of_ble_eq_true rfl, Nat.le_of_ble_eq_true rfl⟩ (fun rr_605 σ605 pp_605 => ?_)
  obtain ⟨e1_, c1_, q1_⟩ := pp_605
  obtain ⟨S1_, m1_⟩ := hS.q c1_ q1_
  have M1_ := hM.sm m1_
  refine V.aload_n C 2 rfl rfl dL_law_608 ?_
  refine V.rload_n C 0 rfl rfl dL_law_609 ?_
  refine V.iload_n C 3 rfl rfl dL_law_610 ?_
  refine V.iconst C (nI 1) c_1 dL_law_611 ?_
  refine V.iadd C dL_law_612 ?_
  rw [nI_add]
  refine V.sld C hX hbl hG (i + 1) (by omega) (by omega) dL_law_613 ?_
  refine V.cVi C lL_104 oX10_value dL_law_614 (ct_M_value G _ P (xs (i + 1)) M1_.2.1 hW) (by assumption) rfl rfl (Nat.le_of_ble_eq_true rfl) ⟨Nat.le_of_ble_eq_true rfl, Nat.le_of_ble_eq_true rfl⟩ ⟨Nat.le_of_ble_eq_true rfl, Nat.le_of_ble_eq_true rfl⟩ (fun rr_614 σ614 pp_614 => ?_)
  obtain ⟨e2_, F2_⟩ := pp_614
  have M2_ := M1_.fm F2_ (by decide) (by decide) (by decide) (by decide) (by decide) (by decide) (by decide) (by decide)
  exact V.icmp_eq C 717 dL_law_617 rfl (fun _ => go σ614 ⟨n, ch, P, hs, sl, S1_.fm F2_ (by decide), M2_, hwH, hwS⟩) (fun hne_ => absurd (e1_.trans e2_.symm) hne_)
set_option maxRecDepth 100000 in
set_option maxHeartbeats 4000000 in
theorem law_isImplied (G : Gl) (X : Cx0) (C : Cx G X cL_law 4 "SliceSolverLaw" 13 478 600000 7302250) (b L : Nat) (xs : Nat → Int32) (hX : va_X b L xs (xS X) (xS X).heap) (hbl : b < (xS X).heap.size) (hG : G.1 = (xS X).heap.size) (hL : L ≤ 2560) (i : Nat) (hi : i + 5 ≤ L) (σ : SS) (hI : InvL σ) (go : ∀ σ1, InvL σ1 → V G X 4 136 11551 717 [(0, .ref b), (1, Rf G 0), (2, Rf G 123), (3, .int (nI i))] [] (wld G σ1)) : V G X 4 136 11551 622 [(0, .ref b), (1, Rf G 0), (2, Rf G 123), (3, .int (nI i))] [] (wld G σ) := by
  obtain ⟨n, ch, P, hs, sl, hS, hM, hwH, hwS⟩ := hI
  have hC := hS.1
  have hW := hC.2.1
  have kk_0 := sk_0
  have kk_123 := sk_123
  refine V.aload_n C 1 rfl rfl dL_law_622 ?_
  refine V.rload_n C 0 rfl rfl dL_law_623 ?_
  refine V.iload_n C 3 rfl rfl dL_law_624 ?_
  refine V.iconst C (nI 1) c_1 dL_law_625 ?_
  refine V.iadd C dL_law_626 ?_
  rw [nI_add]
  refine V.sld C hX hbl hG (i + 1) (by omega) (by omega) dL_law_627 ?_
  refine V.cVi C lL_105 oX9_isImplied dL_law_628 (ct_S_isImplied G σ P (xs (i + 1)) hC) (by assumption) rfl rfl (Nat.le_of_ble_eq_true rfl) ⟨Nat.le_of_ble_eq_true rfl, Nat.le_of_ble_eq_true rfl⟩ ⟨Nat.le_of_ble_eq_true rfl, Nat.le_of_ble_eq_true rfl⟩ (fun rr_628 σ628 pp_628 => ?_)
  obtain ⟨e1_, c1_, q1_⟩ := pp_628
  obtain ⟨S1_, m1_⟩ := hS.q c1_ q1_
  have M1_ := hM.sm m1_
  refine V.aload_n C 2 rfl rfl dL_law_631 ?_
  refine V.rload_n C 0 rfl rfl dL_law_632 ?_
  refine V.iload_n C 3 rfl rfl dL_law_633 ?_
  refine V.iconst C (nI 1) c_1 dL_law_634 ?_
  refine V.iadd C dL_law_635 ?_
  rw [nI_add]
  refine V.sld C hX hbl hG (i + 1) (by omega) (by omega) dL_law_636 ?_
  refine V.cVi C lL_108 oX10_isImplied dL_law_637 (ct_M_isImplied G _ P (xs (i + 1)) M1_.2.1 hW) (by assumption) rfl rfl (Nat.le_of_ble_eq_true rfl) ⟨Nat.le_of_ble_eq_true rfl, Nat.le_of_ble_eq_true rfl⟩ ⟨Nat.le_of_ble_eq_true rfl, Nat.le_of_ble_eq_true rfl⟩ (fun rr_637 σ637 pp_637 => ?_)
  obtain ⟨e2_, F2_⟩ := pp_637
  have M2_ := M1_.fm F2_ (by decide) (by decide) (by decide) (by decide) (by decide) (by decide) (by decide) (by decide)
  exact V.icmp_eq C 717 dL_law_640 rfl (fun _ => go σ637 ⟨n, ch, P, hs, sl, S1_.fm F2_ (by decide), M2_, hwH, hwS⟩) (fun hne_ => absurd (e1_.trans e2_.symm) hne_)
set_option maxRecDepth 100000 in
set_option maxHeartbeats 4000000 in
theorem law_undo (G : Gl) (X : Cx0) (C : Cx G X cL_law 4 "SliceSolverLaw" 13 478 600000 7302250) (b L : Nat) (xs : Nat → Int32) (hX : va_X b L xs (xS X) (xS X).heap) (hbl : b < (xS X).heap.size) (hG : G.1 = (xS X).heap.size) (hL : L ≤ 2560) (i : Nat) (hi : i + 5 ≤ L) (σ : SS) (hI : InvL σ) (go : ∀ σ1, InvL σ1 → V G X 4 136 11551 717 [(0, .ref b), (1, Rf G 0), (2, Rf G 123), (3, .int (nI i))] [] (wld G σ1)) : V G X 4 136 11551 645 [(0, .ref b), (1, Rf G 0), (2, Rf G 123), (3, .int (nI i))] [] (wld G σ) := by
  obtain ⟨n, ch, P, hs, sl, hS, hM, hwH, hwS⟩ := hI
  have hC := hS.1
  have hW := hC.2.1
  have kk_0 := sk_0
  have kk_123 := sk_123
  refine V.aload_n C 1 rfl rfl dL_law_645 ?_
  refine V.cVi C lL_109 oX9_undo dL_law_646 (ct_S_undo G σ n ch P hs sl hwH hS) (by assumption) rfl rfl (Nat.le_of_ble_eq_true rfl) ⟨Nat.le_of_ble_eq_true rfl, Nat.le_of_ble_eq_true rfl⟩ ⟨Nat.le_of_ble_eq_true rfl, Nat.le_of_ble_eq_true rfl⟩ (fun rr_646 σ646 pp_646 => ?_)
  obtain ⟨e1_, S1_, m1_⟩ := pp_646
  have M1_ := hM.sm m1_
  refine V.aload_n C 2 rfl rfl dL_law_649 ?_
  refine V.cVi C lL_112 oX10_undo dL_law_650 (ct_M_undo G _ P hs M1_.2.1 M1_.2.2.1 hwH) (by assumption) rfl rfl (Nat.le_of_ble_eq_true rfl) ⟨Nat.le_of_ble_eq_true rfl, Nat.le_of_ble_eq_true rfl⟩ ⟨Nat.le_of_ble_eq_true rfl, Nat.le_of_ble_eq_true rfl⟩ (fun rr_650 σ650 pp_650 => ?_)
  obtain ⟨e2_, P2_, H2_, F2_⟩ := pp_650
  have M2_ : IM σ650 n ch (udP hs P) (udH hs) sl := ⟨M1_.1.fm F2_ (by decide) (by decide), P2_, H2_, M1_.2.2.2.1.fm F2_ (by decide) (by decide), M1_.2.2.2.2.fm F2_ (by decide)⟩
  exact V.icmp_eq C 717 dL_law_653 rfl (fun _ => go σ650 ⟨n, ch, _, _, sl, S1_.fm F2_ (by decide), M2_, hwH.take _, hwS⟩) (fun hne_ => absurd (e1_.trans e2_.symm) hne_)
set_option maxRecDepth 100000 in
set_option maxHeartbeats 4000000 in
theorem law_undoDepth (G : Gl) (X : Cx0) (C : Cx G X cL_law 4 "SliceSolverLaw" 13 478 600000 7302250) (b L : Nat) (xs : Nat → Int32) (hX : va_X b L xs (xS X) (xS X).heap) (hbl : b < (xS X).heap.size) (hG : G.1 = (xS X).heap.size) (hL : L ≤ 2560) (i : Nat) (hi : i + 5 ≤ L) (σ : SS) (hI : InvL σ) (go : ∀ σ1, InvL σ1 → V G X 4 136 11551 717 [(0, .ref b), (1, Rf G 0), (2, Rf G 123), (3, .int (nI i))] [] (wld G σ1)) : V G X 4 136 11551 658 [(0, .ref b), (1, Rf G 0), (2, Rf G 123), (3, .int (nI i))] [] (wld G σ) := by
  obtain ⟨n, ch, P, hs, sl, hS, hM, hwH, hwS⟩ := hI
  have hC := hS.1
  have hW := hC.2.1
  have kk_0 := sk_0
  have kk_123 := sk_123
  refine V.aload_n C 1 rfl rfl dL_law_658 ?_
  refine V.cVi C lL_113 oX9_undoDepth dL_law_659 (ct_S_undoDepth G σ n ch P hs sl hS) (by assumption) rfl rfl (Nat.le_of_ble_eq_true rfl) ⟨Nat.le_of_ble_eq_true rfl, Nat.le_of_ble_eq_true rfl⟩ ⟨Nat.le_of_ble_eq_true rfl, Nat.le_of_ble_eq_true rfl⟩ (fun rr_659 σ659 pp_659 => ?_)
  obtain ⟨e1_, f1_⟩ := pp_659
  have S1_ : IS σ659 n ch P hs sl := by rw [f1_]; exact hS
  have M1_ : IM σ659 n ch P hs sl := by rw [f1_]; exact hM
  refine V.aload_n C 2 rfl rfl dL_law_662 ?_
  refine V.cVi C lL_116 oX10_undoDepth dL_law_663 (ct_M_undoDepth G _ hs M1_.2.2.1) (by assumption) rfl rfl (Nat.le_of_ble_eq_true rfl) ⟨Nat.le_of_ble_eq_true rfl, Nat.le_of_ble_eq_true rfl⟩ ⟨Nat.le_of_ble_eq_true rfl, Nat.le_of_ble_eq_true rfl⟩ (fun rr_663 σ663 pp_663 => ?_)
  obtain ⟨e2_, F2_⟩ := pp_663
  have M2_ := M1_.fm F2_ (by decide) (by decide) (by decide) (by decide) (by decide) (by decide) (by decide) (by decide)
  exact V.icmp_eq C 717 dL_law_666 rfl (fun _ => go σ663 ⟨n, ch, P, hs, sl, S1_.fm F2_ (by decide), M2_, hwH, hwS⟩) (fun hne_ => absurd (e1_.trans e2_.symm) hne_)
set_option maxRecDepth 100000 in
set_option maxHeartbeats 4000000 in
theorem law_save (G : Gl) (X : Cx0) (C : Cx G X cL_law 4 "SliceSolverLaw" 13 478 600000 7302250) (b L : Nat) (xs : Nat → Int32) (hX : va_X b L xs (xS X) (xS X).heap) (hbl : b < (xS X).heap.size) (hG : G.1 = (xS X).heap.size) (hL : L ≤ 2560) (i : Nat) (hi : i + 5 ≤ L) (σ : SS) (hI : InvL σ) (go : ∀ σ1, InvL σ1 → V G X 4 136 11551 717 [(0, .ref b), (1, Rf G 0), (2, Rf G 123), (3, .int (nI i))] [] (wld G σ1)) : V G X 4 136 11551 671 [(0, .ref b), (1, Rf G 0), (2, Rf G 123), (3, .int (nI i))] [] (wld G σ) := by
  obtain ⟨n, ch, P, hs, sl, hS, hM, hwH, hwS⟩ := hI
  have hC := hS.1
  have hW := hC.2.1
  have kk_0 := sk_0
  have kk_123 := sk_123
  refine V.aload_n C 1 rfl rfl dL_law_671 ?_
  refine V.rload_n C 0 rfl rfl dL_law_672 ?_
  refine V.iload_n C 3 rfl rfl dL_law_673 ?_
  refine V.iconst C (nI 1) c_1 dL_law_674 ?_
  refine V.iadd C dL_law_675 ?_
  rw [nI_add]
  refine V.sld C hX hbl hG (i + 1) (by omega) (by omega) dL_law_676 ?_
  refine V.cVi C lL_117 oX9_save dL_law_677 (ct_S_save G σ n ch P hs sl (xs (i + 1)) hS) (by assumption) rfl rfl (Nat.le_of_ble_eq_true rfl) ⟨Nat.le_of_ble_eq_true rfl, Nat.le_of_ble_eq_true rfl⟩ ⟨Nat.le_of_ble_eq_true rfl, Nat.le_of_ble_eq_true rfl⟩ (fun rr_677 σ677 pp_677 => ?_)
  obtain ⟨e1_, S1_, m1_⟩ := pp_677
  have M1_ := hM.sm m1_
  refine V.aload_n C 2 rfl rfl dL_law_680 ?_
  refine V.rload_n C 0 rfl rfl dL_law_681 ?_
  refine V.iload_n C 3 rfl rfl dL_law_682 ?_
  refine V.iconst C (nI 1) c_1 dL_law_683 ?_
  refine V.iadd C dL_law_684 ?_
  rw [nI_add]
  refine V.sld C hX hbl hG (i + 1) (by omega) (by omega) dL_law_685 ?_
  refine V.cVi C lL_120 oX10_save dL_law_686 (ct_M_save G _ P sl (xs (i + 1)) M1_.2.1 hW M1_.2.2.2.1 hwS) (by assumption) rfl rfl (Nat.le_of_ble_eq_true rfl) ⟨Nat.le_of_ble_eq_true rfl, Nat.le_of_ble_eq_true rfl⟩ ⟨Nat.le_of_ble_eq_true rfl, Nat.le_of_ble_eq_true rfl⟩ (fun rr_686 σ686 pp_686 => ?_)
  obtain ⟨e2_, S2_, F2_⟩ := pp_686
  have M2_ : IM σ686 n ch P hs (svS P sl (xs (i + 1))) := ⟨M1_.1.fm F2_ (by decide) (by decide), by rw [F2_.a (by decide)]; exact M1_.2.1, M1_.2.2.1.fm F2_ (by decide) (by decide), S2_, M1_.2.2.2.2.fm F2_ (by decide)⟩
  exact V.icmp_eq C 717 dL_law_689 rfl (fun _ => go σ686 ⟨n, ch, P, hs, _, S1_.fm F2_ (by decide), M2_, hwH, hwS.up hW _⟩) (fun hne_ => absurd (e1_.trans e2_.symm) hne_)
set_option maxRecDepth 100000 in
set_option maxHeartbeats 4000000 in
theorem law_restore (G : Gl) (X : Cx0) (C : Cx G X cL_law 4 "SliceSolverLaw" 13 478 600000 7302250) (b L : Nat) (xs : Nat → Int32) (hX : va_X b L xs (xS X) (xS X).heap) (hbl : b < (xS X).heap.size) (hG : G.1 = (xS X).heap.size) (hL : L ≤ 2560) (i : Nat) (hi : i + 5 ≤ L) (σ : SS) (hI : InvL σ) (go : ∀ σ1, InvL σ1 → V G X 4 136 11551 717 [(0, .ref b), (1, Rf G 0), (2, Rf G 123), (3, .int (nI i))] [] (wld G σ1)) : V G X 4 136 11551 694 [(0, .ref b), (1, Rf G 0), (2, Rf G 123), (3, .int (nI i))] [] (wld G σ) := by
  obtain ⟨n, ch, P, hs, sl, hS, hM, hwH, hwS⟩ := hI
  have hC := hS.1
  have hW := hC.2.1
  have kk_0 := sk_0
  have kk_123 := sk_123
  refine V.aload_n C 1 rfl rfl dL_law_694 ?_
  refine V.rload_n C 0 rfl rfl dL_law_695 ?_
  refine V.iload_n C 3 rfl rfl dL_law_696 ?_
  refine V.iconst C (nI 1) c_1 dL_law_697 ?_
  refine V.iadd C dL_law_698 ?_
  rw [nI_add]
  refine V.sld C hX hbl hG (i + 1) (by omega) (by omega) dL_law_699 ?_
  refine V.cVi C lL_121 oX9_restore dL_law_700 (ct_S_restore G σ n ch P hs sl (xs (i + 1)) hwS hS) (by assumption) rfl rfl (Nat.le_of_ble_eq_true rfl) ⟨Nat.le_of_ble_eq_true rfl, Nat.le_of_ble_eq_true rfl⟩ ⟨Nat.le_of_ble_eq_true rfl, Nat.le_of_ble_eq_true rfl⟩ (fun rr_700 σ700 pp_700 => ?_)
  obtain ⟨e1_, S1_, m1_⟩ := pp_700
  have M1_ := hM.sm m1_
  refine V.aload_n C 2 rfl rfl dL_law_703 ?_
  refine V.rload_n C 0 rfl rfl dL_law_704 ?_
  refine V.iload_n C 3 rfl rfl dL_law_705 ?_
  refine V.iconst C (nI 1) c_1 dL_law_706 ?_
  refine V.iadd C dL_law_707 ?_
  rw [nI_add]
  refine V.sld C hX hbl hG (i + 1) (by omega) (by omega) dL_law_708 ?_
  refine V.cVi C lL_124 oX10_restore dL_law_709 (ct_M_restore G _ P hs sl (xs (i + 1)) M1_.2.1 M1_.2.2.1 M1_.2.2.2.1 hwS) (by assumption) rfl rfl (Nat.le_of_ble_eq_true rfl) ⟨Nat.le_of_ble_eq_true rfl, Nat.le_of_ble_eq_true rfl⟩ ⟨Nat.le_of_ble_eq_true rfl, Nat.le_of_ble_eq_true rfl⟩ (fun rr_709 σ709 pp_709 => ?_)
  obtain ⟨e2_, P2_, H2_, F2_⟩ := pp_709
  have M2_ : IM σ709 n ch (rsP P sl (xs (i + 1))) (rsH hs sl (xs (i + 1))) sl := ⟨M1_.1.fm F2_ (by decide) (by decide), P2_, H2_, M1_.2.2.2.1.fm F2_ (by decide) (by decide), M1_.2.2.2.2.fm F2_ (by decide)⟩
  exact V.icmp_eq C 717 dL_law_712 rfl (fun _ => go σ709 ⟨n, ch, _, _, sl, S1_.fm F2_ (by decide), M2_, hwH.rs _, hwS⟩) (fun hne_ => absurd (e1_.trans e2_.symm) hne_)
