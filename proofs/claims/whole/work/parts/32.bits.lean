/-! sets as whole numbers -/
theorem bv_of {a : Nat} : BitVec.ofInt 32 (a : Int) = BitVec.ofNat 32 a := by
  exact BitVec.ofInt_natCast 32 a
theorem bv_in {b : BitVec 32} {a : Nat} (h : b.toNat = a) (ha : a < 2147483648) : b.toInt = (a : Int) := by
  rw [BitVec.toInt_eq_toNat_of_lt (by omega), h]
theorem bn_and {a b : Nat} (ha : a < 2147483648) (hb : b < 2147483648) : bg_and a b = ((a &&& b : Nat) : Int) := by
  refine bv_in ?_ (Nat.lt_of_le_of_lt Nat.and_le_left ha)
  show (BitVec.ofInt 32 a &&& BitVec.ofInt 32 b).toNat = _
  rw [bv_of, bv_of, BitVec.toNat_and, BitVec.toNat_ofNat, BitVec.toNat_ofNat, Nat.mod_eq_of_lt (by omega), Nat.mod_eq_of_lt (by omega)]
theorem bn_or {a b : Nat} (ha : a < 2147483648) (hb : b < 2147483648) : bg_or a b = ((a ||| b : Nat) : Int) := by
  refine bv_in ?_ (Nat.or_lt_two_pow (n := 31) ha hb)
  show (BitVec.ofInt 32 a ||| BitVec.ofInt 32 b).toNat = _
  rw [bv_of, bv_of, BitVec.toNat_or, BitVec.toNat_ofNat, BitVec.toNat_ofNat, Nat.mod_eq_of_lt (by omega), Nat.mod_eq_of_lt (by omega)]
theorem bn_xor {a b : Nat} (ha : a < 2147483648) (hb : b < 2147483648) : bg_xor a b = ((a ^^^ b : Nat) : Int) := by
  refine bv_in ?_ (Nat.xor_lt_two_pow (n := 31) ha hb)
  show (BitVec.ofInt 32 a ^^^ BitVec.ofInt 32 b).toNat = _
  rw [bv_of, bv_of, BitVec.toNat_xor, BitVec.toNat_ofNat, BitVec.toNat_ofNat, Nat.mod_eq_of_lt (by omega), Nat.mod_eq_of_lt (by omega)]
theorem bv31 : ∀ k : Nat, k < 32 → ((BitVec.ofNat 32 k) &&& 31#32).toNat = k := by decide +kernel
theorem bv32 : ∀ k : Nat, k < 32 → ((Int32.ofInt (k : Int) &&& 31).toBitVec.smod 32).toNat = k := by decide +kernel
theorem bn_shl {a k : Nat} (hk : k < 32) (h : a * 2 ^ k < 2147483648) : bg_shl a k = ((a * 2 ^ k : Nat) : Int) := by
  refine bv_in ?_ h
  show ((Int32.ofInt (a : Int)).toBitVec <<< ((Int32.ofInt (k : Int) &&& 31).toBitVec.smod 32)).toNat = _
  have ha : a < 2147483648 := by
    have : 1 ≤ 2 ^ k := Nat.one_le_two_pow
    have := Nat.le_mul_of_pos_right a (Nat.lt_of_lt_of_le Nat.zero_lt_one this)
    omega
  rw [BitVec.shiftLeft_eq', BitVec.toNat_shiftLeft, bv32 k hk, Nat.shiftLeft_eq]
  show (BitVec.ofInt 32 (a : Int)).toNat * 2 ^ k % 2 ^ 32 = _
  rw [bv_of, BitVec.toNat_ofNat, Nat.mod_eq_of_lt (a := a) (by omega), Nat.mod_eq_of_lt (by omega)]
theorem bn_shr {a k : Nat} (ha : a < 2147483648) (hk : k < 32) : bg_shr a k = ((a / 2 ^ k : Nat) : Int) := by
  refine bv_in ?_ (Nat.lt_of_le_of_lt (Nat.div_le_self _ _) ha)
  show ((BitVec.ofInt 32 (a : Int)).sshiftRight' ((Int32.ofInt (k : Int) &&& 31).toBitVec.smod 32)).toNat = _
  rw [BitVec.sshiftRight', bv32 k hk, bv_of, BitVec.sshiftRight_eq_of_msb_false (by rw [BitVec.msb_eq_false_iff_two_mul_lt, BitVec.toNat_ofNat, Nat.mod_eq_of_lt (by omega)]; omega), BitVec.toNat_ushiftRight, BitVec.toNat_ofNat, Nat.mod_eq_of_lt (by omega), Nat.shiftRight_eq_div_pow]
theorem bt_tb {a k : Nat} (ha : a < 2147483648) (hk : k < 32) : bt a k = if a.testBit k then 1 else 0 := by
  unfold bt
  rw [bn_shr ha hk, show (1 : Int) = ((1 : Nat) : Int) from rfl, bn_and (Nat.lt_of_le_of_lt (Nat.div_le_self _ _) ha) (by omega), Nat.and_one_is_mod, Nat.testBit_eq_decide_div_mod_eq]
  by_cases h : a / 2 ^ k % 2 = 1
  · simp [h]
  · have : a / 2 ^ k % 2 = 0 := by omega
    simp [this]
theorem bt_tb1 {a k : Nat} (ha : a < 2147483648) (hk : k < 32) : bt a k = 1 ↔ a.testBit k = true := by
  rw [bt_tb ha hk]; split <;> simp_all
theorem bt_tb0 {a k : Nat} (ha : a < 2147483648) (hk : k < 32) : bt a k = 0 ↔ a.testBit k = false := by
  rw [bt_tb ha hk]; split <;> simp_all
theorem bg_and_assoc (a b c : Int) : bg_and (bg_and a b) c = bg_and a (bg_and b c) := by
  unfold bg_and
  rw [Int32.ofInt_toInt, Int32.ofInt_toInt, Int32.and_assoc]
theorem sub_and {S T : Nat} (hS : S < 256) (hT : T < 256) (h : ∀ v : Int, 0 ≤ v → v ≤ 7 → bt S v = 1 → bt T v = 1) : bg_and T S = S := by
  rw [bn_and (by omega) (by omega)]
  congr 1
  refine Nat.eq_of_testBit_eq (fun i => ?_)
  rw [Nat.testBit_and]
  by_cases hi : i < 8
  · have := h i (by omega) (by omega)
    rw [bt_tb1 (by omega) (by omega), bt_tb1 (by omega) (by omega)] at this
    cases e : S.testBit i
    · simp
    · rw [this e]; rfl
  · rw [Nat.testBit_lt_two_pow (Nat.lt_of_lt_of_le hS (show 2 ^ 8 ≤ 2 ^ i from Nat.pow_le_pow_right (by decide) (by omega)))]
    simp
theorem plc_eq (c : Nat) (hc : c < 64) : plc c = ((2 * c + 1 : Nat) : Int) := by
  revert c; decide +kernel
theorem plc_bits : ∀ c : Nat, c < 64 → bt ((2 * c + 1 : Nat) : Int) 0 = 1 ∧ bt ((2 * c + 1 : Nat) : Int) 7 = 0 := by decide +kernel
theorem plc_all : ∀ S : Nat, S < 256 → bt S 0 = 1 → bt S 7 = 0 → S = 2 * (S / 2) + 1 ∧ S / 2 < 64 := by decide +kernel
theorem wls_min {f : Nat → Int} {s : Nat} (hs : s < 64) (hf : ∀ c, c < 64 → f s ≤ f c ∧ (f c = f s → bg_and ((2 * c + 1 : Nat) : Int) ((2 * s + 1 : Nat) : Int) = ((2 * s + 1 : Nat) : Int))) (hm : f s < 2147483647) : ∀ c, c ≤ 64 → (s < c → wls f plc c = (f s, ((2 * s + 1 : Nat) : Int))) ∧ (c ≤ s → f s < (wls f plc c).1)
  | 0, _ => ⟨fun h => absurd h (by omega), fun _ => hm⟩
  | c + 1, hc => by
    obtain ⟨i1, i2⟩ := wls_min hs hf hm c (by omega)
    have fc := hf c (by omega)
    have pc := plc_eq c (by omega)
    refine ⟨fun h => ?_, fun h => ?_⟩
    · by_cases e : s = c
      · subst e
        unfold wls
        rw [if_pos (i2 (Nat.le_refl _)), pc]
      · unfold wls
        rw [i1 (by omega), if_neg (by show ¬ f c < f s; omega)]
    · have ne : f c ≠ f s := fun e2 => by
        have := fc.2 e2
        rw [bn_and (by omega) (by omega)] at this
        have l : (2 * c + 1) &&& (2 * s + 1) ≤ 2 * c + 1 := Nat.and_le_left
        omega
      unfold wls
      split
      · show f s < f c
        omega
      · exact i2 (by omega)
/-- the least cut: what it bears, and the common part of all that bear so little -/
def mcT (N : Nat) (A B cap : Nat → Int) : Int × Int := wls (fun c => cutM N A B cap (2 * c + 1)) plc 64
theorem minM_mcT {N : Nat} {A B cap : Nat → Int} {F : Int} {S : Nat} (h : minM N A B cap F S) (hF : F ≤ 1200) : mcT N A B cap = (F, (S : Int)) := by
  obtain ⟨h1, h2, h3, h4, h5⟩ := h
  obtain ⟨e, hs⟩ := plc_all S h1 h2 h3
  have := (wls_min (f := fun c => cutM N A B cap (2 * c + 1)) hs (fun c hc => ?_) (by show cutM N A B cap (2 * (S / 2) + 1) < _; rw [← e, ← h4]; omega) 64 (Nat.le_refl _)).1 hs
  · unfold mcT
    rw [this]
    show (cutM N A B cap (2 * (S / 2) + 1), ((2 * (S / 2) + 1 : Nat) : Int)) = _
    rw [← e, ← h4]
  · obtain ⟨b1, b2⟩ := plc_bits c hc
    obtain ⟨k1, k2⟩ := h5 (2 * c + 1) (by omega) b1 b2
    show cutM N A B cap (2 * (S / 2) + 1) ≤ cutM N A B cap (2 * c + 1) ∧ (cutM N A B cap (2 * c + 1) = cutM N A B cap (2 * (S / 2) + 1) → _)
    rw [← e, ← h4]
    exact ⟨k1, fun e2 => sub_and h1 (by omega) (k2 e2.symm)⟩
/-- a set, place by place -/
def stN : Nat → (Nat → Bool) → Nat
  | 0, _ => 0
  | n + 1, P => if P n then stN n P ||| 2 ^ n else stN n P
theorem stN_lt (P : Nat → Bool) : ∀ n, stN n P < 2 ^ n
  | 0 => by simp [stN]
  | n + 1 => by
    have h := stN_lt P n
    have e : 2 ^ (n + 1) = 2 ^ n + 2 ^ n := by rw [Nat.pow_succ]; omega
    unfold stN
    split
    · exact Nat.or_lt_two_pow (by omega) (by have : 0 < 2 ^ n := Nat.two_pow_pos n; omega)
    · omega
theorem stN_tb (P : Nat → Bool) (i : Nat) : ∀ n, (stN n P).testBit i = (decide (i < n) && P i)
  | 0 => by simp [stN]
  | n + 1 => by
    have h := stN_tb P i n
    unfold stN
    have hp : (2 ^ n).testBit i = decide (n = i) := Nat.testBit_two_pow
    split
    · rename_i e
      rw [Nat.testBit_or, h, hp]
      by_cases c : i = n
      · subst c; simp [e]
      · by_cases c2 : i < n
        · simp [c2, show i < n + 1 by omega, show ¬ n = i by omega]
        · simp [c2, show ¬ i < n + 1 by omega, show ¬ n = i by omega]
    · rename_i e
      rw [h]
      by_cases c : i = n
      · subst c; simp [e]
      · by_cases c2 : i < n
        · simp [c2, show i < n + 1 by omega]
        · simp [c2, show ¬ i < n + 1 by omega]
theorem p2_lt {n : Nat} (h : n ≤ 30) : 2 ^ n < 2147483648 := Nat.lt_of_le_of_lt (Nat.pow_le_pow_right (by decide) h) (by decide)
theorem bn_bit {k : Nat} (hk : k < 31) : bg_shl 1 k = ((2 ^ k : Nat) : Int) := by
  have := bn_shl (a := 1) (k := k) (by omega) (by rw [Nat.one_mul]; exact p2_lt (by omega))
  rw [Nat.one_mul] at this
  exact this
theorem fo_st {P : Nat → Bool} {f : Nat → Int → Int} : ∀ {n : Nat}, n ≤ 30 → (∀ p a, p < n → f p a = if P p then bg_or a (bg_shl 1 p) else a) → fo n f 0 = (stN n P : Int)
  | 0, _, _ => rfl
  | n + 1, hn, hf => by
    have ih := fo_st (n := n) (by omega) (fun p a hp => hf p a (by omega))
    show f n (fo n f 0) = _
    rw [ih, hf n _ (by omega), show stN (n + 1) P = if P n then stN n P ||| 2 ^ n else stN n P from rfl]
    split
    · rw [bn_bit (by omega), bn_or (Nat.lt_trans (stN_lt P n) (p2_lt (by omega))) (p2_lt (by omega))]
    · rfl
theorem bt_st {P : Nat → Bool} {n i : Nat} (hn : n ≤ 30) (hi : i < 32) : bt (stN n P) i = if i < n ∧ P i = true then 1 else 0 := by
  rw [bt_tb (Nat.lt_trans (stN_lt P n) (p2_lt hn)) hi, stN_tb]
  by_cases c : i < n
  · cases e : P i <;> simp [c]
  · simp [c]
