/-! The chosen model: the search over words and flips finds what the search over sets of bits finds. -/
def xrF (f : Nat → Bool) : List Nat → Bool
  | [] => false
  | r :: l => f r ^^ xrF f l
def wF (fl : Nat → Int64) (w : Int64) : List Nat → Int64
  | [] => w
  | r :: l => wF fl (w ^^^ fl r) l
theorem wF_bit (fl : Nat → Int64) (p : Nat) : ∀ (os : List Nat) (w : Int64), bl (wF fl w os) p = (bl w p ^^ xrF (fun r => bl (fl r) p) os)
  | [], w => by show bl w p = (bl w p ^^ false); simp
  | r :: l, w => by
    show bl (wF fl (w ^^^ fl r) l) p = _
    rw [wF_bit fl p l, bl_xor]
    show ((bl w p ^^ bl (fl r) p) ^^ _) = (bl w p ^^ (bl (fl r) p ^^ _))
    rw [Bool.xor_assoc]
theorem xrF_none {f : Nat → Bool} : ∀ {l : List Nat}, (∀ r, r ∈ l → f r = false) → xrF f l = false
  | [], _ => rfl
  | r :: l, h => by
    show (f r ^^ xrF f l) = false
    rw [h r List.mem_cons_self, xrF_none (fun q hq => h q (List.mem_cons_of_mem _ hq))]; rfl
theorem xrF_one {f : Nat → Bool} {z : Nat} : ∀ {l : List Nat}, l.Nodup → z ∈ l → (∀ r, r ∈ l → f r = decide (r = z)) → xrF f l = true
  | [], _, hm, _ => by cases hm
  | r :: l, hn, hm, h => by
    show (f r ^^ xrF f l) = true
    rw [List.nodup_cons] at hn
    rw [h r List.mem_cons_self]
    by_cases q : r = z
    · rw [decide_eq_true q, xrF_none (fun x hx => by
        rw [h x (List.mem_cons_of_mem _ hx)]
        refine decide_eq_false (fun e => hn.1 ?_)
        rw [q, ← e]; exact hx)]
      rfl
    · rw [decide_eq_false q, xrF_one hn.2 (by
        rcases List.mem_cons.mp hm with e | e
        · exact absurd e.symm q
        · exact e) (fun x hx => h x (List.mem_cons_of_mem _ hx))]
      rfl
theorem xrF_xor (f g : Nat → Bool) : ∀ l, xrF (fun r => f r ^^ g r) l = (xrF f l ^^ xrF g l)
  | [] => rfl
  | r :: l => by
    show ((f r ^^ g r) ^^ xrF (fun r => f r ^^ g r) l) = ((f r ^^ xrF f l) ^^ (g r ^^ xrF g l))
    rw [xrF_xor f g l]
    cases f r <;> cases g r <;> cases xrF f l <;> cases xrF g l <;> rfl
theorem xrF_congr {f g : Nat → Bool} : ∀ {l : List Nat}, (∀ r, r ∈ l → f r = g r) → xrF f l = xrF g l
  | [], _ => rfl
  | r :: l, h => by
    show (f r ^^ xrF f l) = (g r ^^ xrF g l)
    rw [h r List.mem_cons_self, xrF_congr (fun q hq => h q (List.mem_cons_of_mem _ hq))]
theorem vW_bit {u : UF} {os : List Nat} {a : Nat} (hfree : ∀ r, r ∈ os → u.2.1 r = none) (hn : os.Nodup) : decide (vW u os a = 1) = (v1 u a ^^ xrF (fun r => frB u a r) os) := by
  unfold vW v1
  by_cases hv : isV a = true
  · rw [if_pos hv, if_pos hv]
    by_cases hm : u.1 (vb a) ∈ os
    · have hf := hfree _ hm
      rw [if_pos hm, hf, xrF_one hn hm (fun r hr => by
        unfold frB frO
        rw [if_pos hv, if_pos hf]
        by_cases q : r = u.1 (vb a)
        · rw [q]; simp
        · have : ¬ u.1 (vb a) = r := fun e => q e.symm
          simp [q, this])]
      rfl
    · rw [if_neg hm, xrF_none (fun r hr => by
        unfold frB frO
        rw [if_pos hv]
        split
        · refine decide_eq_false (fun e => hm ?_)
          rw [Option.some.inj e]; exact hr
        · rfl), Bool.xor_false]
      cases q : u.2.1 (u.1 (vb a)) with
      | none => rfl
      | some w => show decide (w = 1) = decide (some w = some 1); simp
  · rw [if_neg hv, if_neg hv, xrF_none (fun r hr => by unfold frB frO; rw [if_neg hv]; rfl), Bool.xor_false]
theorem two_ne {x y : Nat} (hx : x < 2) (hy : y < 2) : decide (¬ x = y) = (decide (x = 1) ^^ decide (y = 1)) := by
  rcases (show x = 0 ∨ x = 1 by omega) with rfl | rfl <;> rcases (show y = 0 ∨ y = 1 by omega) with rfl | rfl <;> rfl
/-- where the terms of a disequation differ -/
theorem diff_bit {D : List Stm} {u : UF} {w : Int64} {fl : Nat → Int64} {os : List Nat} {s : Stm} {k b : Nat} (hI : wInv D u w fl 48) (hv2 : ∀ x v, u.2.1 x = some v → v < 2) (hfree : ∀ r, r ∈ os → u.2.1 r = none ∧ r < 128) (hn : os.Nodup) (hs : D[k]? = some s) (hok : okS s) (hk : k < 3) (hb : b < 16) : bl (wF fl w os) (16 * k + b) = (decide (b < s.1) && decide (¬ vW u os (s.2.1 b) = vW u os (s.2.2 b))) := by
  have e1 : (16 * k + b) / 16 = k := by omega
  have e2 : (16 * k + b) % 16 = b := by omega
  rw [wF_bit, hI.1 _ (by omega), decide_eq_true (show 16 * k + b < 48 by omega), Bool.true_and]
  have hw : wz D u (16 * k + b) = (decide (b < s.1) && (v1 u (s.2.1 b) ^^ v1 u (s.2.2 b))) := by unfold wz; rw [e1, hs, e2]
  have hx : xrF (fun r => bl (fl r) (16 * k + b)) os = xrF (fun r => decide (b < s.1) && (frB u (s.2.1 b) r ^^ frB u (s.2.2 b) r)) os := xrF_congr (fun r hr => by
    rw [hI.2 r (hfree r hr).2 _ (by omega), decide_eq_true (show 16 * k + b < 48 by omega), Bool.true_and]
    unfold flB; rw [e1, hs, e2])
  rw [hw, hx]
  by_cases hb1 : b < s.1
  · simp only [decide_eq_true hb1, Bool.true_and]
    rw [xrF_xor, two_ne (vW_lt hv2 os (hok.2.2 b hb1).1) (vW_lt hv2 os (hok.2.2 b hb1).2), vW_bit (fun r hr => (hfree r hr).1) hn, vW_bit (fun r hr => (hfree r hr).1) hn]
    generalize v1 u (s.2.1 b) = x1
    generalize v1 u (s.2.2 b) = x2
    generalize xrF (fun r => frB u (s.2.1 b) r) os = x3
    generalize xrF (fun r => frB u (s.2.2 b) r) os = x4
    cases x1 <;> cases x2 <;> cases x3 <;> cases x4 <;> rfl
  · simp only [decide_eq_false hb1, Bool.false_and]
    rw [xrF_none (fun _ _ => rfl)]; rfl
theorem none_bit {D : List Stm} {u : UF} {w : Int64} {fl : Nat → Int64} {os : List Nat} {k : Nat} (hI : wInv D u w fl 48) (hlt : ∀ r, r ∈ os → r < 128) (hs : D[k]? = none) (hk : k < 3) : bl (wF fl w os) (16 * k) = true := by
  have e1 : (16 * k) / 16 = k := by omega
  rw [wF_bit, hI.1 _ (by omega), decide_eq_true (show 16 * k < 48 by omega), Bool.true_and]
  have hw : wz D u (16 * k) = true := by unfold wz; rw [e1, hs]; exact decide_eq_true (by omega)
  rw [hw, xrF_none (fun r hr => by
    rw [hI.2 r (hlt r hr) _ (by omega)]
    unfold flB; rw [e1, hs, Bool.and_false])]
  rfl
theorem mk1 : ∀ i, i < 64 → bl 65535 i = decide (i < 16) := by decide +kernel
theorem mk2 : ∀ i, i < 64 → bl 4294901760 i = decide (16 ≤ i ∧ i < 32) := by decide +kernel
theorem mk3 : ∀ i, i < 64 → bl 281470681743360 i = decide (32 ≤ i ∧ i < 48) := by decide +kernel
theorem blk (x m : Int64) (k : Nat) (hk : k < 3) (hm : ∀ i, i < 64 → bl m i = decide (16 * k ≤ i ∧ i < 16 * k + 16)) : (¬ (x &&& m) = 0) ↔ ∃ b, b < 16 ∧ bl x (16 * k + b) = true := by
  constructor
  · intro h
    refine Classical.byContradiction (fun hno => h ?_)
    refine bl_ext (fun i hi => ?_)
    rw [bl_and, hm i hi, bl_0]
    by_cases q : 16 * k ≤ i ∧ i < 16 * k + 16
    · rw [decide_eq_true q, Bool.and_true]
      refine Bool.eq_false_iff.mpr (fun hx => hno ⟨i - 16 * k, by omega, ?_⟩)
      rw [show 16 * k + (i - 16 * k) = i by omega]; exact hx
    · rw [decide_eq_false q, Bool.and_false]
  · intro ⟨b, hb, hx⟩ h
    have h1 := congrArg (fun z => bl z (16 * k + b)) h
    simp only [bl_and, bl_0] at h1
    rw [hm _ (by omega), hx, decide_eq_true (show 16 * k ≤ 16 * k + b ∧ 16 * k + b < 16 * k + 16 by omega)] at h1
    cases h1
theorem hold3_iff (x : Int64) : hold3 x = true ↔ ∀ k, k < 3 → ∃ b, b < 16 ∧ bl x (16 * k + b) = true := by
  unfold hold3
  rw [Bool.and_eq_true, Bool.and_eq_true, decide_eq_true_iff, decide_eq_true_iff, decide_eq_true_iff]
  rw [blk x 65535 0 (by decide) (fun i hi => by rw [mk1 i hi]; congr 1; simp), blk x 4294901760 1 (by decide) (fun i hi => by rw [mk2 i hi]), blk x 281470681743360 2 (by decide) (fun i hi => by rw [mk3 i hi])]
  constructor
  · intro ⟨⟨h0, h1⟩, h2⟩ k hk
    rcases (show k = 0 ∨ k = 1 ∨ k = 2 by omega) with rfl | rfl | rfl
    · exact h0
    · exact h1
    · exact h2
  · intro h; exact ⟨⟨h 0 (by decide), h 1 (by decide)⟩, h 2 (by decide)⟩
theorem hW_iff (u : UF) (os : List Nat) (s : Stm) : hW u os s = true ↔ ∃ b, b < s.1 ∧ ¬ vW u os (s.2.1 b) = vW u os (s.2.2 b) := by
  unfold hW
  rw [Bool.not_eq_true', Bool.eq_false_iff, Ne, eqW_iff]
  constructor
  · intro h
    refine Classical.byContradiction (fun hno => h (fun k hk => ?_))
    exact Classical.byContradiction (fun hne => hno ⟨k, hk, hne⟩)
  · intro ⟨b, hb, hne⟩ h
    exact hne (h b hb)
theorem hold_mW {D : List Stm} {u : UF} {w : Int64} {fl : Nat → Int64} {os : List Nat} (hI : wInv D u w fl 48) (hokD : okL D) (hD3 : D.length ≤ 3) (hv2 : ∀ x v, u.2.1 x = some v → v < 2) (hfree : ∀ r, r ∈ os → u.2.1 r = none ∧ r < 128) (hn : os.Nodup) : hold3 (wF fl w os) = mW u os D := by
  rw [Bool.eq_iff_iff, hold3_iff]
  unfold mW
  rw [List.all_eq_true]
  constructor
  · intro h s hs
    obtain ⟨k, hk⟩ := List.getElem?_of_mem hs
    have hkl := (List.getElem?_eq_some_iff.mp hk).1
    obtain ⟨b, hb, hx⟩ := h k (by omega)
    rw [diff_bit hI hv2 hfree hn hk (hokD k s hk) (by omega) hb, Bool.and_eq_true, decide_eq_true_iff, decide_eq_true_iff] at hx
    exact (hW_iff u os s).mpr ⟨b, hx.1, hx.2⟩
  · intro h k hk
    cases hs : D[k]? with
    | none => exact ⟨0, by decide, none_bit hI (fun r hr => (hfree r hr).2) hs hk⟩
    | some s =>
      obtain ⟨b, hb, hne⟩ := (hW_iff u os s).mp (h s (List.mem_of_getElem? hs))
      have h16 := (hokD k s hs).2.1
      refine ⟨b, by omega, ?_⟩
      rw [diff_bit hI hv2 hfree hn hs (hokD k s hs) hk (by omega), decide_eq_true hb, decide_eq_true hne]; rfl
/-! The searches over one list. -/
theorem sr3_pk {g : List Nat → Bool} {fl : Nat → Int64} {w : Int64} {a b : Nat} : ∀ {l : List Nat}, (∀ c, c ∈ l → g [a, b, c] = hold3 (w ^^^ fl c)) → sr3 g 3 a b l = (pk1 fl w l).map (fun c => [a, b, c])
  | [], _ => rfl
  | c :: l, h => by
    show (if g [a, b, c] = true then some [a, b, c] else sr3 g 3 a b l) = Option.map _ (if hold3 (w ^^^ fl c) = true then some c else pk1 fl w l)
    rw [h c List.mem_cons_self, sr3_pk (fun q hq => h q (List.mem_cons_of_mem _ hq))]
    split <;> rfl
theorem sr2_pk {g : List Nat → Bool} {fl : Nat → Int64} {w : Int64} {a : Nat} : ∀ {l : List Nat}, (∀ c, c ∈ l → g [a, c] = hold3 (w ^^^ fl c)) → sr2 g 2 a l = (pk1 fl w l).map (fun c => [a, c])
  | [], _ => rfl
  | c :: l, h => by
    show (match (if g [a, c] = true then some [a, c] else none) with | some r => some r | none => sr2 g 2 a l) = Option.map _ (if hold3 (w ^^^ fl c) = true then some c else pk1 fl w l)
    rw [h c List.mem_cons_self, sr2_pk (fun q hq => h q (List.mem_cons_of_mem _ hq))]
    by_cases q : hold3 (w ^^^ fl c) = true
    · rw [if_pos q, if_pos q]; rfl
    · rw [if_neg q, if_neg q]
theorem sr1_pk {g : List Nat → Bool} {fl : Nat → Int64} {w : Int64} : ∀ {l : List Nat}, (∀ c, c ∈ l → g [c] = hold3 (w ^^^ fl c)) → sr1 g 1 l = (pk1 fl w l).map (fun c => [c])
  | [], _ => rfl
  | c :: l, h => by
    show (match (match (if g [c] = true then some [c] else none) with | some r => some r | none => none) with | some r => some r | none => sr1 g 1 l) = Option.map _ (if hold3 (w ^^^ fl c) = true then some c else pk1 fl w l)
    rw [h c List.mem_cons_self, sr1_pk (fun q hq => h q (List.mem_cons_of_mem _ hq))]
    by_cases q : hold3 (w ^^^ fl c) = true
    · rw [if_pos q, if_pos q]; rfl
    · rw [if_neg q, if_neg q]
theorem sr1_pk2 {g : List Nat → Bool} {fl : Nat → Int64} {w : Int64} : ∀ {l : List Nat}, l.Nodup → (∀ a c, a ∈ l → c ∈ l → a ≠ c → g [a, c] = hold3 (w ^^^ fl a ^^^ fl c)) → sr1 g 2 l = (pk2 fl w l).map (fun q => [q.1, q.2])
  | [], _, _ => rfl
  | a :: l, hn, h => by
    rw [List.nodup_cons] at hn
    show (match sr2 g 2 a l with | some r => some r | none => sr1 g 2 l) = Option.map _ (match pk1 fl (w ^^^ fl a) l with | some b => some (a, b) | none => pk2 fl w l)
    rw [sr2_pk (w := w ^^^ fl a) (fun c hc => h a c List.mem_cons_self (List.mem_cons_of_mem _ hc) (fun e => hn.1 (e ▸ hc))), sr1_pk2 hn.2 (fun x y hx hy => h x y (List.mem_cons_of_mem _ hx) (List.mem_cons_of_mem _ hy))]
    cases pk1 fl (w ^^^ fl a) l <;> rfl
theorem sr2_pk2 {g : List Nat → Bool} {fl : Nat → Int64} {w : Int64} {a : Nat} : ∀ {l : List Nat}, l.Nodup → (∀ b c, b ∈ l → c ∈ l → b ≠ c → g [a, b, c] = hold3 (w ^^^ fl b ^^^ fl c)) → sr2 g 3 a l = (pk2 fl w l).map (fun q => [a, q.1, q.2])
  | [], _, _ => rfl
  | b :: l, hn, h => by
    rw [List.nodup_cons] at hn
    show (match sr3 g 3 a b l with | some r => some r | none => sr2 g 3 a l) = Option.map _ (match pk1 fl (w ^^^ fl b) l with | some c => some (b, c) | none => pk2 fl w l)
    rw [sr3_pk (w := w ^^^ fl b) (fun c hc => h b c List.mem_cons_self (List.mem_cons_of_mem _ hc) (fun e => hn.1 (e ▸ hc))), sr2_pk2 hn.2 (fun x y hx hy => h x y (List.mem_cons_of_mem _ hx) (List.mem_cons_of_mem _ hy))]
    cases pk1 fl (w ^^^ fl b) l <;> rfl
theorem sr1_pk3 {g : List Nat → Bool} {fl : Nat → Int64} {w : Int64} : ∀ {l : List Nat}, l.Nodup → (∀ a b c, a ∈ l → b ∈ l → c ∈ l → a ≠ b → a ≠ c → b ≠ c → g [a, b, c] = hold3 (w ^^^ fl a ^^^ fl b ^^^ fl c)) → sr1 g 3 l = (pk3 fl w l).map (fun q => [q.1, q.2.1, q.2.2])
  | [], _, _ => rfl
  | a :: l, hn, h => by
    rw [List.nodup_cons] at hn
    show (match sr2 g 3 a l with | some r => some r | none => sr1 g 3 l) = Option.map _ (match pk2 fl (w ^^^ fl a) l with | some q => some (a, q.1, q.2) | none => pk3 fl w l)
    rw [sr2_pk2 (w := w ^^^ fl a) hn.2 (fun b c hb hc hbc => h a b c List.mem_cons_self (List.mem_cons_of_mem _ hb) (List.mem_cons_of_mem _ hc) (fun e => hn.1 (e ▸ hb)) (fun e => hn.1 (e ▸ hc)) hbc), sr1_pk3 hn.2 (fun x y z hx hy hz => h x y z (List.mem_cons_of_mem _ hx) (List.mem_cons_of_mem _ hy) (List.mem_cons_of_mem _ hz))]
    cases pk2 fl (w ^^^ fl a) l <;> rfl
/-! Bits without a flip never help. -/
def nz (fl : Nat → Int64) (r : Nat) : Bool := decide (¬ fl r = 0)
theorem xor_z (w : Int64) : w ^^^ 0 = w := bl_ext (fun i _ => by rw [bl_xor, bl_0, Bool.xor_false])
theorem pk1_f {fl : Nat → Int64} {w : Int64} (hw : hold3 w = false) : ∀ l : List Nat, pk1 fl w (l.filter (nz fl)) = pk1 fl w l
  | [] => rfl
  | a :: l => by
    rw [List.filter_cons]
    by_cases q : fl a = 0
    · rw [if_neg (by unfold nz; simp [q]), pk1_f hw l]
      show _ = (if hold3 (w ^^^ fl a) = true then some a else pk1 fl w l)
      rw [q, xor_z, hw]; rfl
    · rw [if_pos (by unfold nz; simp [q])]
      show (if hold3 (w ^^^ fl a) = true then some a else pk1 fl w (l.filter (nz fl))) = (if hold3 (w ^^^ fl a) = true then some a else pk1 fl w l)
      rw [pk1_f hw l]
theorem pk1_no {fl : Nat → Int64} {w : Int64} {a : Nat} {l : List Nat} (h : pk1 fl w (a :: l) = none) : hold3 (w ^^^ fl a) = false ∧ pk1 fl w l = none := by
  have h1 : (if hold3 (w ^^^ fl a) = true then some a else pk1 fl w l) = none := h
  by_cases q : hold3 (w ^^^ fl a) = true
  · rw [if_pos q] at h1; cases h1
  · rw [if_neg q] at h1; exact ⟨Bool.eq_false_iff.mpr q, h1⟩
theorem pk2_no {fl : Nat → Int64} {w : Int64} {a : Nat} {l : List Nat} (h : pk2 fl w (a :: l) = none) : pk1 fl (w ^^^ fl a) l = none ∧ pk2 fl w l = none := by
  have h1 : (match pk1 fl (w ^^^ fl a) l with | some b => some (a, b) | none => pk2 fl w l) = none := h
  cases q : pk1 fl (w ^^^ fl a) l with
  | some b => rw [q] at h1; cases h1
  | none => rw [q] at h1; exact ⟨rfl, h1⟩
theorem pk2_f {fl : Nat → Int64} {w : Int64} (hw : hold3 w = false) : ∀ l : List Nat, pk1 fl w l = none → pk2 fl w (l.filter (nz fl)) = pk2 fl w l
  | [], _ => rfl
  | a :: l, h1 => by
    have hh := pk1_no h1
    rw [List.filter_cons]
    by_cases q : fl a = 0
    · rw [if_neg (by unfold nz; simp [q]), pk2_f hw l hh.2]
      show _ = (match pk1 fl (w ^^^ fl a) l with | some b => some (a, b) | none => pk2 fl w l)
      rw [q, xor_z, hh.2]
    · rw [if_pos (by unfold nz; simp [q])]
      show (match pk1 fl (w ^^^ fl a) (l.filter (nz fl)) with | some b => some (a, b) | none => pk2 fl w (l.filter (nz fl))) = (match pk1 fl (w ^^^ fl a) l with | some b => some (a, b) | none => pk2 fl w l)
      rw [pk1_f hh.1 l, pk2_f hw l hh.2]
theorem pk3_f {fl : Nat → Int64} {w : Int64} (hw : hold3 w = false) : ∀ l : List Nat, pk1 fl w l = none → pk2 fl w l = none → pk3 fl w (l.filter (nz fl)) = pk3 fl w l
  | [], _, _ => rfl
  | a :: l, h1, h2 => by
    have hh := pk1_no h1
    have h4 := pk2_no h2
    rw [List.filter_cons]
    by_cases q : fl a = 0
    · rw [if_neg (by unfold nz; simp [q]), pk3_f hw l hh.2 h4.2]
      show _ = (match pk2 fl (w ^^^ fl a) l with | some q => some (a, q.1, q.2) | none => pk3 fl w l)
      rw [q, xor_z, h4.2]
    · rw [if_pos (by unfold nz; simp [q])]
      show (match pk2 fl (w ^^^ fl a) (l.filter (nz fl)) with | some q => some (a, q.1, q.2) | none => pk3 fl w (l.filter (nz fl))) = (match pk2 fl (w ^^^ fl a) l with | some q => some (a, q.1, q.2) | none => pk3 fl w l)
      rw [pk2_f hh.1 l h4.1, pk3_f hw l hh.2 h4.2]
theorem pkAll_f (fl : Nat → Int64) (w : Int64) (l : List Nat) : pkAll fl w (l.filter (nz fl)) = pkAll fl w l := by
  unfold pkAll
  by_cases q : hold3 w = true
  · rw [if_pos q, if_pos q]
  · have hw := Bool.eq_false_iff.mpr q
    rw [if_neg q, if_neg q, pk1_f hw l]
    cases h1 : pk1 fl w l with
    | some a => rfl
    | none =>
      show (match pk2 fl w (l.filter (nz fl)) with | some q => some [q.1, q.2] | none => (match pk3 fl w (l.filter (nz fl)) with | some q => some [q.1, q.2.1, q.2.2] | none => none)) = (match pk2 fl w l with | some q => some [q.1, q.2] | none => (match pk3 fl w l with | some q => some [q.1, q.2.1, q.2.2] | none => none))
      rw [pk2_f hw l h1]
      cases h2 : pk2 fl w l with
      | some a => rfl
      | none =>
        show (match pk3 fl w (l.filter (nz fl)) with | some q => some [q.1, q.2.1, q.2.2] | none => none) = (match pk3 fl w l with | some q => some [q.1, q.2.1, q.2.2] | none => none)
        rw [pk3_f hw l h1 h2]
/-! More ones than disequations never help. -/
theorem pk1_none {fl : Nat → Int64} {w : Int64} : ∀ {l : List Nat}, pk1 fl w l = none → ∀ a, a ∈ l → hold3 (w ^^^ fl a) = false
  | [], _, a, ha => by cases ha
  | b :: l, h, a, ha => by
    have hh := pk1_no h
    rcases List.mem_cons.mp ha with e | e
    · rw [e]; exact hh.1
    · exact pk1_none hh.2 a e
theorem pk2_none {fl : Nat → Int64} {w : Int64} : ∀ {l : List Nat}, pk2 fl w l = none → ∀ a b, [a, b].Sublist l → hold3 (w ^^^ fl a ^^^ fl b) = false
  | [], _, a, b, ha => by cases ha
  | c :: l, h, a, b, ha => by
    have hh := pk2_no h
    cases ha with
    | cons _ h1 => exact pk2_none hh.2 a b h1
    | cons_cons _ h1 => exact pk1_none hh.1 b (List.singleton_sublist.mp h1)
theorem pk1_hold {fl : Nat → Int64} {w : Int64} {a : Nat} : ∀ {l : List Nat}, pk1 fl w l = some a → hold3 (w ^^^ fl a) = true
  | [], h => by cases h
  | b :: l, h => by
    have h1 : (if hold3 (w ^^^ fl b) = true then some b else pk1 fl w l) = some a := h
    by_cases q : hold3 (w ^^^ fl b) = true
    · rw [if_pos q] at h1; cases h1; exact q
    · rw [if_neg q] at h1; exact pk1_hold h1
theorem pk2_hold {fl : Nat → Int64} {w : Int64} {a b : Nat} : ∀ {l : List Nat}, pk2 fl w l = some (a, b) → [a, b].Sublist l ∧ hold3 (w ^^^ fl a ^^^ fl b) = true
  | [], h => by cases h
  | c :: l, h => by
    have h1 : (match pk1 fl (w ^^^ fl c) l with | some b => some (c, b) | none => pk2 fl w l) = some (a, b) := h
    cases q : pk1 fl (w ^^^ fl c) l with
    | some d => rw [q] at h1; cases h1; exact ⟨List.Sublist.cons_cons _ (List.singleton_sublist.mpr (pk1_mem q)), pk1_hold q⟩
    | none => rw [q] at h1; have := pk2_hold h1; exact ⟨List.Sublist.cons _ this.1, this.2⟩
theorem pk3_hold {fl : Nat → Int64} {w : Int64} {a b d : Nat} : ∀ {l : List Nat}, pk3 fl w l = some (a, b, d) → [a, b, d].Sublist l ∧ hold3 (w ^^^ fl a ^^^ fl b ^^^ fl d) = true
  | [], h => by cases h
  | c :: l, h => by
    have h1 : (match pk2 fl (w ^^^ fl c) l with | some q => some (c, q.1, q.2) | none => pk3 fl w l) = some (a, b, d) := h
    cases q : pk2 fl (w ^^^ fl c) l with
    | some z =>
      obtain ⟨z1, z2⟩ := z
      rw [q] at h1; cases h1
      have := pk2_hold q
      exact ⟨List.Sublist.cons_cons _ this.1, this.2⟩
    | none => rw [q] at h1; have := pk3_hold h1; exact ⟨List.Sublist.cons _ this.1, this.2⟩
theorem par3 : ∀ w1 a1 b1 c1 w2 a2 b2 c2 : Bool, (((w1 ^^ a1) ^^ b1) ^^ c1) = true → (((w2 ^^ a2) ^^ b2) ^^ c2) = true → (w1 && w2) = true ∨ ((w1 ^^ a1) && (w2 ^^ a2)) = true ∨ ((w1 ^^ b1) && (w2 ^^ b2)) = true ∨ ((w1 ^^ c1) && (w2 ^^ c2)) = true ∨ (((w1 ^^ a1) ^^ b1) && ((w2 ^^ a2) ^^ b2)) = true ∨ (((w1 ^^ a1) ^^ c1) && ((w2 ^^ a2) ^^ c2)) = true ∨ (((w1 ^^ b1) ^^ c1) && ((w2 ^^ b2) ^^ c2)) = true := by decide
/-- with at most two disequations the third block always holds -/
theorem hold_of {x : Int64} {p q : Nat} (hp : p < 16) (hq : q < 16) (h1 : bl x p = true) (h2 : bl x (16 + q) = true) (h3 : bl x 32 = true) : hold3 x = true := by
  refine (hold3_iff x).mpr (fun k hk => ?_)
  rcases (show k = 0 ∨ k = 1 ∨ k = 2 by omega) with rfl | rfl | rfl
  · exact ⟨p, hp, by rw [show 16 * 0 + p = p by omega]; exact h1⟩
  · exact ⟨q, hq, h2⟩
  · exact ⟨0, by decide, h3⟩
theorem pk3_two {fl : Nat → Int64} {w : Int64} {l : List Nat} (h32 : bl w 32 = true) (f32 : ∀ r, r ∈ l → bl (fl r) 32 = false) (h0 : hold3 w = false) (h1 : pk1 fl w l = none) (h2 : pk2 fl w l = none) : pk3 fl w l = none := by
  cases h3 : pk3 fl w l with
  | none => rfl
  | some z =>
    exfalso
    obtain ⟨a, b, c⟩ := z
    obtain ⟨hs, hh⟩ := pk3_hold h3
    have ma : a ∈ l := hs.subset (by simp)
    have mb : b ∈ l := hs.subset (by simp)
    have mc : c ∈ l := hs.subset (by simp)
    have sab : [a, b].Sublist l := List.Sublist.trans (List.Sublist.cons_cons _ (List.Sublist.cons_cons _ (List.nil_sublist _))) hs
    have sac : [a, c].Sublist l := List.Sublist.trans (List.Sublist.cons_cons _ (List.Sublist.cons _ (List.Sublist.refl _))) hs
    have sbc : [b, c].Sublist l := List.Sublist.trans (List.Sublist.cons _ (List.Sublist.refl _)) hs
    have e1 := pk1_none h1 a ma
    have e2 := pk1_none h1 b mb
    have e3 := pk1_none h1 c mc
    have e4 := pk2_none h2 a b sab
    have e5 := pk2_none h2 a c sac
    have e6 := pk2_none h2 b c sbc
    obtain ⟨p, hp, hp1⟩ := (hold3_iff _).mp hh 0 (by decide)
    obtain ⟨q, hq, hq1⟩ := (hold3_iff _).mp hh 1 (by decide)
    rw [show 16 * 0 + p = p by omega] at hp1
    rw [show 16 * 1 + q = 16 + q by omega] at hq1
    simp only [bl_xor] at hp1 hq1
    have key : ∀ x : Int64, hold3 x = false → bl x 32 = true → (bl x p && bl x (16 + q)) = true → False := fun x hx h32' hb => by
      rw [Bool.and_eq_true] at hb
      rw [hold_of hp hq hb.1 hb.2 h32'] at hx
      cases hx
    rcases par3 _ _ _ _ _ _ _ _ hp1 hq1 with z | z | z | z | z | z | z
    · exact key _ h0 h32 z
    · exact key _ e1 (by rw [bl_xor, h32, f32 a ma]; rfl) (by rw [bl_xor, bl_xor]; exact z)
    · exact key _ e2 (by rw [bl_xor, h32, f32 b mb]; rfl) (by rw [bl_xor, bl_xor]; exact z)
    · exact key _ e3 (by rw [bl_xor, h32, f32 c mc]; rfl) (by rw [bl_xor, bl_xor]; exact z)
    · exact key _ e4 (by rw [bl_xor, bl_xor, h32, f32 a ma, f32 b mb]; rfl) (by simp only [bl_xor]; exact z)
    · exact key _ e5 (by rw [bl_xor, bl_xor, h32, f32 a ma, f32 c mc]; rfl) (by simp only [bl_xor]; exact z)
    · exact key _ e6 (by rw [bl_xor, bl_xor, h32, f32 b mb, f32 c mc]; rfl) (by simp only [bl_xor]; exact z)
theorem pk2_one {fl : Nat → Int64} {w : Int64} {l : List Nat} (h16 : bl w 16 = true) (f16 : ∀ r, r ∈ l → bl (fl r) 16 = false) (h32 : bl w 32 = true) (f32 : ∀ r, r ∈ l → bl (fl r) 32 = false) (h0 : hold3 w = false) (h1 : pk1 fl w l = none) : pk2 fl w l = none := by
  cases h3 : pk2 fl w l with
  | none => rfl
  | some z =>
    exfalso
    obtain ⟨a, b⟩ := z
    obtain ⟨hs, hh⟩ := pk2_hold h3
    have ma : a ∈ l := hs.subset (by simp)
    have mb : b ∈ l := hs.subset (by simp)
    have e1 := pk1_none h1 a ma
    have e2 := pk1_none h1 b mb
    obtain ⟨p, hp, hp1⟩ := (hold3_iff _).mp hh 0 (by decide)
    rw [show 16 * 0 + p = p by omega] at hp1
    simp only [bl_xor] at hp1
    have key : ∀ x : Int64, hold3 x = false → bl x 16 = true → bl x 32 = true → bl x p = true → False := fun x hx h16' h32' hb => by
      rw [hold_of (q := 0) hp (by decide) hb h16' h32'] at hx
      cases hx
    have k0 := key w h0 h16 h32
    have k1 := key _ e1 (by rw [bl_xor, h16, f16 a ma]; rfl) (by rw [bl_xor, h32, f32 a ma]; rfl)
    have k2 := key _ e2 (by rw [bl_xor, h16, f16 b mb]; rfl) (by rw [bl_xor, h32, f32 b mb]; rfl)
    rw [bl_xor] at k1 k2
    cases hw : bl w p with
    | true => exact k0 hw
    | false =>
      rw [hw] at k1 k2 hp1
      cases ha : bl (fl a) p with
      | true => exact k1 (by rw [ha]; rfl)
      | false =>
        cases hb : bl (fl b) p with
        | true => exact k2 (by rw [hb]; rfl)
        | false => rw [ha, hb] at hp1; cases hp1
