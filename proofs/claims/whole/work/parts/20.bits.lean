/-! Bits (rows taken from kit/laws/BITS.to-paste: Int32 by its bits; nI under and, >>>). bitCount; cuts as pure sets. -/
def bt (x : Int32) (i : Nat) : Bool := x.toBitVec.getLsbD i
theorem b_ext {x y : Int32} (h : ∀ i, i < 32 → bt x i = bt y i) : x = y := Int32.toBitVec_inj.mp (BitVec.eq_of_getLsbD_eq (fun i hi => h i hi))
theorem b_or (x y : Int32) (i : Nat) : bt (x ||| y) i = (bt x i || bt y i) := by unfold bt; rw [Int32.toBitVec_or, BitVec.getLsbD_or]
theorem b_and (x y : Int32) (i : Nat) : bt (x &&& y) i = (bt x i && bt y i) := by unfold bt; rw [Int32.toBitVec_and, BitVec.getLsbD_and]
theorem b_xor (x y : Int32) (i : Nat) : bt (x ^^^ y) i = (bt x i ^^ bt y i) := by unfold bt; rw [Int32.toBitVec_xor, BitVec.getLsbD_xor]
theorem b_big {x : Int32} {i : Nat} (h : 32 ≤ i) : bt x i = false := BitVec.getLsbD_of_ge _ _ h
theorem b_0 (i : Nat) : bt 0 i = false := BitVec.getLsbD_zero
theorem s_l : ∀ n, n < 32 → ((nI n &&& 31).toBitVec.smod 32).toNat = n := by decide +kernel
theorem s_u : ∀ n, n < 32 → (((nI n).toUInt32 &&& Int32.toUInt32 31).toBitVec % 32).toNat = n := by decide +kernel
theorem b_shl (n : Nat) (hn : n < 32) (x : Int32) {i : Nat} (hi : i < 32) : bt (x <<< (nI n &&& 31)) i = (decide (n ≤ i) && bt x (i - n)) := by
  unfold bt
  rw [Int32.toBitVec_shiftLeft]
  show (x.toBitVec <<< ((nI n &&& 31).toBitVec.smod 32).toNat).getLsbD i = _
  rw [s_l n hn, BitVec.getLsbD_shiftLeft]
  rcases Nat.lt_or_ge i n with h | h
  · simp [h, Nat.not_le.mpr h]
  · simp [hi, h, Nat.not_lt.mpr h]
theorem b_ushr (n : Nat) (hn : n < 32) (x : Int32) (i : Nat) : bt ((x.toUInt32 >>> ((nI n).toUInt32 &&& Int32.toUInt32 31)).toInt32) i = bt x (n + i) := by
  show (x.toUInt32 >>> ((nI n).toUInt32 &&& Int32.toUInt32 31)).toBitVec.getLsbD i = x.toUInt32.toBitVec.getLsbD (n + i)
  rw [UInt32.toBitVec_shiftRight]
  show (x.toUInt32.toBitVec >>> (((nI n).toUInt32 &&& Int32.toUInt32 31).toBitVec % 32).toNat).getLsbD i = _
  rw [s_u n hn, BitVec.getLsbD_ushiftRight]
theorem nx_and (a b : Nat) : nI a &&& nI b = nI (a &&& b) := by
  apply Int32.toBitVec_inj.1
  show BitVec.ofNat 32 a &&& BitVec.ofNat 32 b = BitVec.ofNat 32 (a &&& b)
  apply BitVec.eq_of_getLsbD_eq
  intro i hi
  simp [hi]
theorem nx_cnt : ∀ j : Fin 32, (UInt32.ofNat j.val &&& Int32.toUInt32 31).toNat % 32 = j.val := by decide +kernel
theorem nx_ush {k j : Nat} (hk : k < 65536) (hj : j < 32) : ((nI k).toUInt32 >>> ((nI j).toUInt32 &&& Int32.toUInt32 31)).toInt32 = nI (k >>> j) := by
  have hs : k >>> j ≤ k := by
    rw [Nat.shiftRight_eq_div_pow]
    exact Nat.div_le_self _ _
  have e2 : UInt32.ofNat k >>> (UInt32.ofNat j &&& Int32.toUInt32 31) = UInt32.ofNat (k >>> j) := by
    apply UInt32.toNat_inj.1
    have h1 : (UInt32.ofNat k).toNat = k := Nat.mod_eq_of_lt (by omega)
    have h2 : (UInt32.ofNat (k >>> j)).toNat = k >>> j := Nat.mod_eq_of_lt (by omega)
    rw [UInt32.toNat_shiftRight, nx_cnt ⟨j, hj⟩, h1, h2]
  show (UInt32.ofNat k >>> (UInt32.ofNat j &&& Int32.toUInt32 31)).toInt32 = _
  rw [e2]
  rfl
theorem shl_1 {b i : Nat} (hb : b < 32) (hi : i < 32) : bt (shl32 (nI 1) (nI b)) i = decide (i = b) := by
  unfold shl32
  rw [b_shl b hb _ hi]
  have h1 : ∀ j, j < 32 → bt (nI 1) j = decide (j = 0) := by decide +kernel
  rw [h1 _ (by omega)]
  by_cases h : i = b
  · simp [h]
  · rcases Nat.lt_or_ge i b with q | q
    · simp [h, Nat.not_le.mpr q]
    · have : ¬ i - b = 0 := by omega
      simp [h, this]
theorem bt_test {x : Int32} {b : Nat} (hb : b < 32) : (x &&& shl32 (nI 1) (nI b)) = 0 ↔ bt x b = false := by
  constructor
  · intro h
    have h1 := congrArg (fun z => bt z b) h
    simp only [b_and, b_0, shl_1 hb hb] at h1
    simpa using h1
  · intro h
    apply b_ext
    intro i hi
    rw [b_and, b_0, shl_1 hb hi]
    by_cases e : i = b
    · rw [e, h]; rfl
    · simp [e]
theorem bt_or {x : Int32} {b i : Nat} (hb : b < 32) (hi : i < 32) : bt (x ||| shl32 (nI 1) (nI b)) i = (bt x i || decide (i = b)) := by rw [b_or, shl_1 hb hi]
/-- how many of the first n places hold -/
def cntN (f : Nat → Bool) : Nat → Nat
  | 0 => 0
  | n + 1 => cntN f n + (if f n then 1 else 0)
theorem cntN_congr {f g : Nat → Bool} : ∀ {n : Nat}, (∀ i, i < n → f i = g i) → cntN f n = cntN g n
  | 0, _ => rfl
  | n + 1, h => by
    unfold cntN
    rw [cntN_congr (fun i hi => h i (by omega)), h n (by omega)]
theorem cntN_le {f g : Nat → Bool} : ∀ {n : Nat}, (∀ i, i < n → f i = true → g i = true) → cntN f n ≤ cntN g n
  | 0, _ => Nat.le_refl _
  | n + 1, h => by
    unfold cntN
    have h1 := cntN_le (fun i (hi : i < n) => h i (by omega))
    have h2 := h n (by omega)
    cases hf : f n <;> cases hg : g n <;> simp_all <;> omega
theorem cntN_lt {f g : Nat → Bool} : ∀ {n x : Nat}, (∀ i, i < n → f i = true → g i = true) → x < n → f x = false → g x = true → cntN f n < cntN g n
  | 0, x, _, hx, _, _ => by omega
  | n + 1, x, h, hx, h1, h2 => by
    unfold cntN
    by_cases e : x = n
    · subst e
      have := cntN_le (fun i (hi : i < x) => h i (by omega))
      rw [h1, h2]; simp; omega
    · have := cntN_lt (fun i (hi : i < n) => h i (by omega)) (show x < n by omega) h1 h2
      have h3 := h n (by omega)
      cases hf : f n <;> cases hg : g n <;> simp_all <;> omega
theorem cntN_max (f : Nat → Bool) : ∀ n, cntN f n ≤ n
  | 0 => Nat.le_refl _
  | n + 1 => by
    unfold cntN
    have := cntN_max f n
    split <;> omega
theorem cntN_miss {f : Nat → Bool} : ∀ {n x : Nat}, x < n → f x = false → cntN f n < n
  | 0, x, h, _ => by omega
  | n + 1, x, h, h1 => by
    unfold cntN
    have h2 := cntN_max f n
    by_cases e : x = n
    · subst e; rw [h1]; simp; omega
    · have := cntN_miss (show x < n by omega) h1
      split <;> omega
def bc_1 (n : Nat) : Nat := Nat.sub n (Nat.land (Nat.shiftRight n 1) 1431655765)
def bc_2 (n : Nat) : Nat := Nat.add (Nat.land n 858993459) (Nat.land (Nat.shiftRight n 2) 858993459)
def bc_3 (n : Nat) : Nat := Nat.land (Nat.add n (Nat.shiftRight n 4)) 252645135
def bc_4 (n : Nat) : Nat := Nat.add n (Nat.shiftRight n 8)
def bc_5 (n : Nat) : Nat := Nat.add n (Nat.shiftRight n 16)
def bcN (n : Nat) : Nat := Nat.land (bc_5 (bc_4 (bc_3 (bc_2 (bc_1 n))))) 63
def bcOk (n : Nat) : Bool := and (Nat.beq (bcN (Nat.mul 2 n)) (bcN n)) (Nat.beq (bcN (Nat.succ (Nat.mul 2 n))) (Nat.succ (bcN n)))
def chk2 (t : Nat → Bool) (lo : Nat) : Nat → Bool
  | 0 => t lo
  | k + 1 => chk2 t lo k && chk2 t (lo + 2 ^ k) k
theorem chk2_of {t : Nat → Bool} : ∀ {k lo : Nat}, chk2 t lo k = true → ∀ n, lo ≤ n → n < lo + 2 ^ k → t n = true
  | 0, lo, h, n, h1, h2 => by
    have : n = lo := by simp at h2; omega
    subst this; exact h
  | k + 1, lo, h, n, h1, h2 => by
    unfold chk2 at h
    simp only [Bool.and_eq_true] at h
    rcases Nat.lt_or_ge n (lo + 2 ^ k) with q | q
    · exact chk2_of h.1 n h1 q
    · exact chk2_of h.2 n q (by rw [Nat.pow_succ] at h2; omega)

theorem bc_chk0 : chk2 bcOk 0 12 = true := by decide +kernel
theorem bc_chk1 : chk2 bcOk 4096 12 = true := by decide +kernel
theorem bc_chk2 : chk2 bcOk 8192 12 = true := by decide +kernel
theorem bc_chk3 : chk2 bcOk 12288 12 = true := by decide +kernel
theorem bc_chk4 : chk2 bcOk 16384 12 = true := by decide +kernel
theorem bc_chk5 : chk2 bcOk 20480 12 = true := by decide +kernel
theorem bc_chk6 : chk2 bcOk 24576 12 = true := by decide +kernel
theorem bc_chk7 : chk2 bcOk 28672 12 = true := by decide +kernel
theorem bc_step {n : Nat} (h : n < 32768) : bcN (2 * n) = bcN n ∧ bcN (2 * n + 1) = bcN n + 1 := by
  have key : bcOk n = true := by
    rcases Nat.lt_or_ge n 4096 with q | q
    · exact chk2_of bc_chk0 n (by omega) (by omega)
    rcases Nat.lt_or_ge n 8192 with q2 | q2
    · exact chk2_of bc_chk1 n (by omega) (by omega)
    rcases Nat.lt_or_ge n 12288 with q3 | q3
    · exact chk2_of bc_chk2 n (by omega) (by omega)
    rcases Nat.lt_or_ge n 16384 with q4 | q4
    · exact chk2_of bc_chk3 n (by omega) (by omega)
    rcases Nat.lt_or_ge n 20480 with q5 | q5
    · exact chk2_of bc_chk4 n (by omega) (by omega)
    rcases Nat.lt_or_ge n 24576 with q6 | q6
    · exact chk2_of bc_chk5 n (by omega) (by omega)
    rcases Nat.lt_or_ge n 28672 with q7 | q7
    · exact chk2_of bc_chk6 n (by omega) (by omega)
    · exact chk2_of bc_chk7 n (by omega) (by omega)
  unfold bcOk at key
  simp only [Bool.and_eq_true] at key
  exact ⟨Nat.eq_of_beq_eq_true key.1, Nat.eq_of_beq_eq_true key.2⟩
theorem cntN_head (f : Nat → Bool) : ∀ n, cntN f (n + 1) = (if f 0 then 1 else 0) + cntN (fun i => f (i + 1)) n
  | 0 => by simp [cntN]
  | n + 1 => by
    have h := cntN_head f n
    have e1 : cntN f (n + 1 + 1) = cntN f (n + 1) + (if f (n + 1) then 1 else 0) := rfl
    have e2 : cntN (fun i => f (i + 1)) (n + 1) = cntN (fun i => f (i + 1)) n + (if f (n + 1) then 1 else 0) := rfl
    rw [e1, e2, h]; omega
theorem bc_all : ∀ (k : Nat), k ≤ 16 → ∀ n, n < 2 ^ k → bcN n = cntN (fun i => n.testBit i) k
  | 0, _, n, h => by
    have : n = 0 := by simp at h; omega
    subst this; rfl
  | k + 1, hk, n, h => by
    have hn : n / 2 < 2 ^ k := by rw [Nat.pow_succ] at h; omega
    have hs : n / 2 < 32768 := by
      have : 2 ^ k ≤ 2 ^ 15 := Nat.pow_le_pow_right (by decide) (by omega)
      omega
    have ih := bc_all k (by omega) (n / 2) hn
    rw [cntN_head]
    have e : (fun i => n.testBit (i + 1)) = fun i => (n / 2).testBit i := by funext i; rw [Nat.testBit_succ]
    rw [e, ← ih]
    obtain ⟨s1, s2⟩ := bc_step hs
    rcases Nat.mod_two_eq_zero_or_one n with q | q
    · have e2 : n = 2 * (n / 2) := by omega
      have e3 : n.testBit 0 = false := by simp [Nat.testBit_zero, q]
      rw [e3]
      calc bcN n = bcN (2 * (n / 2)) := by rw [← e2]
        _ = bcN (n / 2) := s1
        _ = _ := by simp
    · have e2 : n = 2 * (n / 2) + 1 := by omega
      have e3 : n.testBit 0 = true := by simp [Nat.testBit_zero, q]
      rw [e3]
      calc bcN n = bcN (2 * (n / 2) + 1) := by rw [← e2]
        _ = bcN (n / 2) + 1 := s2
        _ = _ := by simp; omega
theorem bt_nI {k i : Nat} (hi : i < 32) : bt (nI k) i = k.testBit i := by
  show (BitVec.ofNat 32 k).getLsbD i = _
  rw [BitVec.getLsbD_ofNat]; simp [hi]
theorem nx_ush2 {k j : Nat} (hk : k < 2 ^ 32) (hj : j < 32) : ushr32 (nI k) (nI j) = nI (k >>> j) := by
  apply b_ext
  intro i hi
  rw [show bt (ushr32 (nI k) (nI j)) i = bt (nI k) (j + i) from b_ushr j hj (nI k) i, bt_nI hi, Nat.testBit_shiftRight]
  rcases Nat.lt_or_ge (j + i) 32 with q | q
  · rw [bt_nI q]
  · rw [b_big q, Nat.testBit_lt_two_pow (Nat.lt_of_lt_of_le hk (Nat.pow_le_pow_right (by decide) q))]
theorem bc32_nI {n : Nat} (h : n < 65536) : bc32 (nI n) = nI (bcN n) := by
  have e5 : (1431655765 : Int32) = nI 1431655765 := rfl
  have e3 : (858993459 : Int32) = nI 858993459 := rfl
  have e0 : (252645135 : Int32) = nI 252645135 := rfl
  have g1 : (n >>> 1) &&& 1431655765 ≤ n := Nat.le_trans Nat.and_le_left (by rw [Nat.shiftRight_eq_div_pow]; omega)
  have b1 : bc_1 n < 65536 := Nat.lt_of_le_of_lt (Nat.sub_le _ _) h
  have s1 : nI n - (ushr32 (nI n) (nI 1) &&& 1431655765) = nI (bc_1 n) := by
    rw [nx_ush2 (by omega) (by omega), e5, nx_and, nI_sub g1]; rfl
  have b2 : bc_2 (bc_1 n) < 2 ^ 17 := by
    have h2 : (bc_1 n) &&& 858993459 ≤ bc_1 n := Nat.and_le_left
    have h3 : ((bc_1 n) >>> 2) &&& 858993459 ≤ bc_1 n := Nat.le_trans Nat.and_le_left (by rw [Nat.shiftRight_eq_div_pow]; omega)
    show ((bc_1 n) &&& 858993459) + (((bc_1 n) >>> 2) &&& 858993459) < 2 ^ 17
    omega
  have s2 : (nI (bc_1 n) &&& 858993459) + (ushr32 (nI (bc_1 n)) (nI 2) &&& 858993459) = nI (bc_2 (bc_1 n)) := by
    rw [nx_ush2 (by omega) (by omega), e3, nx_and, nx_and, nI_add]; rfl
  have b3 : bc_3 (bc_2 (bc_1 n)) < 2 ^ 18 := by
    have h2 : ((bc_2 (bc_1 n)) + (bc_2 (bc_1 n)) >>> 4) &&& 252645135 ≤ (bc_2 (bc_1 n)) + (bc_2 (bc_1 n)) >>> 4 := Nat.and_le_left
    have h3 : (bc_2 (bc_1 n)) >>> 4 ≤ bc_2 (bc_1 n) := by rw [Nat.shiftRight_eq_div_pow]; omega
    show ((bc_2 (bc_1 n)) + (bc_2 (bc_1 n)) >>> 4) &&& 252645135 < 2 ^ 18
    omega
  have s3 : (nI (bc_2 (bc_1 n)) + ushr32 (nI (bc_2 (bc_1 n))) (nI 4)) &&& 252645135 = nI (bc_3 (bc_2 (bc_1 n))) := by
    rw [nx_ush2 (by omega) (by omega), e0, nI_add, nx_and]; rfl
  have b4 : bc_4 (bc_3 (bc_2 (bc_1 n))) < 2 ^ 19 := by
    have h3 : (bc_3 (bc_2 (bc_1 n))) >>> 8 ≤ bc_3 (bc_2 (bc_1 n)) := by rw [Nat.shiftRight_eq_div_pow]; omega
    show (bc_3 (bc_2 (bc_1 n))) + (bc_3 (bc_2 (bc_1 n))) >>> 8 < 2 ^ 19
    omega
  have s4 : nI (bc_3 (bc_2 (bc_1 n))) + ushr32 (nI (bc_3 (bc_2 (bc_1 n)))) (nI 8) = nI (bc_4 (bc_3 (bc_2 (bc_1 n)))) := by
    rw [nx_ush2 (by omega) (by omega), nI_add]; rfl
  have s5 : nI (bc_4 (bc_3 (bc_2 (bc_1 n)))) + ushr32 (nI (bc_4 (bc_3 (bc_2 (bc_1 n))))) (nI 16) = nI (bc_5 (bc_4 (bc_3 (bc_2 (bc_1 n))))) := by
    rw [nx_ush2 (by omega) (by omega), nI_add]; rfl
  unfold bc32
  simp only [s1, s2, s3, s4, s5]
  rw [nx_and]; rfl
/-- bitCount of a set of sixteen bits -/
theorem bc32_set {x : Int32} (h : ∀ b, 16 ≤ b → b < 32 → bt x b = false) : bc32 x = nI (cntN (fun i => bt x i) 16) := by
  have e : x = nI (x.toBitVec.toNat) := by
    apply b_ext
    intro i hi
    rw [bt_nI hi]; rfl
  have hlt : x.toBitVec.toNat < 2 ^ 16 := by
    apply Nat.lt_pow_two_of_testBit
    intro i hi
    rcases Nat.lt_or_ge i 32 with q | q
    · have := h i hi q
      rw [e, bt_nI q] at this; exact this
    · exact Nat.testBit_lt_two_pow (Nat.lt_of_lt_of_le x.toBitVec.isLt (Nat.pow_le_pow_right (by decide) q))
  rw [e, bc32_nI hlt, bc_all 16 (Nat.le_refl _) _ hlt]
  congr 1
  apply cntN_congr
  intro i hi
  rw [bt_nI (by omega)]

