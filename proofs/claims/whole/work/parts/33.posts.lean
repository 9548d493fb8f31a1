/-! which numbers are posts -/
abbrev okS (np nt s : Int) : Prop := 0 ≤ s ∧ isp np nt s = 1
theorem allp_eq : ∀ np : Nat, np < 13 → ∀ nt : Nat, nt < 4 → allp np nt = ((2 ^ np - 1 + 4096 * (2 ^ nt - 1) : Nat) : Int) := by decide +kernel
theorem allp_tb : ∀ np : Nat, np < 13 → ∀ nt : Nat, nt < 4 → 2 ^ np - 1 + 4096 * (2 ^ nt - 1) < 32768 ∧ ∀ i : Nat, i < 15 → (2 ^ np - 1 + 4096 * (2 ^ nt - 1)).testBit i = decide (i < np ∨ (12 ≤ i ∧ i < 12 + nt)) := by decide +kernel
theorem and_not0 {s : Int} {M : Nat} : bg_and s (bg_xor M (-1)) = 0 ↔ ∀ i, i < 32 → (BitVec.ofInt 32 s).getLsbD i = true → (BitVec.ofNat 32 M).getLsbD i = true := by
  have e1 : bg_and s (bg_xor M (-1)) = (BitVec.ofInt 32 s &&& ~~~ (BitVec.ofNat 32 M)).toInt := by
    unfold bg_and bg_xor
    rw [Int32.ofInt_toInt]
    show (BitVec.ofInt 32 s &&& (BitVec.ofInt 32 (M : Int) ^^^ BitVec.ofInt 32 (-1))).toInt = _
    rw [bv_of, show BitVec.ofInt 32 (-1) = BitVec.allOnes 32 from rfl, BitVec.xor_allOnes]
  rw [e1]
  constructor
  · intro h i hi hs
    have h : BitVec.ofInt 32 s &&& ~~~ (BitVec.ofNat 32 M) = 0#32 := BitVec.eq_of_toInt_eq (by rw [h]; rfl)
    have h2 : (BitVec.ofInt 32 s &&& ~~~ (BitVec.ofNat 32 M)).getLsbD i = (0#32).getLsbD i := by rw [h]
    rw [BitVec.getLsbD_and, hs, BitVec.getLsbD_not, BitVec.getLsbD_zero] at h2
    simpa [hi] using h2
  · intro h
    have : BitVec.ofInt 32 s &&& ~~~ (BitVec.ofNat 32 M) = 0#32 := by
      refine BitVec.eq_of_getLsbD_eq (fun i hi => ?_)
      rw [BitVec.getLsbD_and, BitVec.getLsbD_not, BitVec.getLsbD_zero]
      cases e : (BitVec.ofInt 32 s).getLsbD i
      · simp
      · rw [h i hi e]; simp
    rw [this]; rfl
theorem isp_neg {np nt : Nat} (hp : np ≤ 12) (ht : nt ≤ 3) {s : Int} (h1 : -2147483648 ≤ s) (h2 : s < 0) : isp np nt s = 0 := by
  unfold isp
  rw [allp_eq np (by omega) nt (by omega), if_neg]
  rw [and_not0]
  intro h
  have hm := h 31 (by omega) (by
    rw [BitVec.getLsbD_eq_getElem (by omega)]
    have : (BitVec.ofInt 32 s).msb = true := by
      rw [BitVec.msb_eq_toInt, BitVec.toInt_ofInt, Int.bmod_eq_of_le (by omega) (by omega)]
      simp [h2]
    rw [BitVec.msb_eq_getLsbD_last] at this
    simpa using this)
  rw [BitVec.getLsbD_ofNat] at hm
  have := (allp_tb np (by omega) nt (by omega)).1
  rw [Nat.testBit_lt_two_pow (Nat.lt_trans this (by decide))] at hm
  simp at hm
theorem okS_iff {np nt : Nat} (hp : np ≤ 12) (ht : nt ≤ 3) {s : Int} (h1 : s ≤ 2147483647) : okS np nt s ↔ ∃ a b : Nat, a < 2 ^ np ∧ b < 2 ^ nt ∧ s = ((a + 4096 * b : Nat) : Int) := by
  have ⟨hM, hb⟩ := allp_tb np (by omega) nt (by omega)
  have e0 : ∀ n : Nat, n < 2147483648 → (isp np nt n = 1 ↔ ∀ i, n.testBit i = true → (2 ^ np - 1 + 4096 * (2 ^ nt - 1)).testBit i = true) := by
    intro n hn
    unfold isp
    rw [allp_eq np (by omega) nt (by omega)]
    have : (if bg_and n (bg_xor ((2 ^ np - 1 + 4096 * (2 ^ nt - 1) : Nat) : Int) (-1)) = 0 then (1 : Int) else 0) = 1 ↔ bg_and n (bg_xor ((2 ^ np - 1 + 4096 * (2 ^ nt - 1) : Nat) : Int) (-1)) = 0 := by split <;> simp_all
    rw [this, and_not0]
    constructor
    · intro h i hi
      have hi2 : i < 32 := by
        refine Decidable.byContradiction (fun c => ?_)
        rw [Nat.testBit_lt_two_pow (Nat.lt_of_lt_of_le hn (show 2 ^ 31 ≤ 2 ^ i from Nat.pow_le_pow_right (by decide) (by omega)))] at hi
        exact absurd hi (by decide)
      have := h i hi2 (by rw [bv_of, BitVec.getLsbD_ofNat]; simp [hi2, hi])
      rw [BitVec.getLsbD_ofNat] at this
      simpa [hi2] using this
    · intro h i hi hs
      rw [bv_of, BitVec.getLsbD_ofNat] at hs
      rw [BitVec.getLsbD_ofNat]
      simp [hi] at hs ⊢
      exact h i hs
  constructor
  · intro ⟨h0, h⟩
    obtain ⟨n, rfl⟩ : ∃ n : Nat, s = n := ⟨s.toNat, by omega⟩
    rw [e0 n (by omega)] at h
    have hn : n < 2 ^ 15 := Nat.lt_pow_two_of_testBit _ (fun i hi => by
      cases e : n.testBit i
      · rfl
      · have := h i e
        rw [Nat.testBit_lt_two_pow (Nat.lt_of_lt_of_le hM (show 2 ^ 15 ≤ 2 ^ i from Nat.pow_le_pow_right (by decide) hi))] at this
        exact absurd this (by decide))
    refine ⟨n % 2 ^ 12, n / 2 ^ 12, Nat.lt_pow_two_of_testBit _ (fun i hi => ?_), Nat.lt_pow_two_of_testBit _ (fun i hi => ?_), by omega⟩
    · rw [Nat.testBit_mod_two_pow]
      by_cases c : i < 12
      · cases e : n.testBit i
        · simp
        · have := h i e
          rw [hb i (by omega)] at this
          simp at this
          omega
      · simp [c]
    · rw [Nat.testBit_div_two_pow]
      cases e : n.testBit (i + 12)
      · rfl
      · have h3 : i + 12 < 15 := by
          refine Decidable.byContradiction (fun c => ?_)
          rw [Nat.testBit_lt_two_pow (Nat.lt_of_lt_of_le hn (Nat.pow_le_pow_right (by decide) (by omega)))] at e
          exact absurd e (by decide)
        have := h (i + 12) e
        rw [hb (i + 12) h3] at this
        simp at this
        omega
  · intro ⟨a, b, ha, hb2, e⟩
    refine ⟨by omega, ?_⟩
    have ha12 : a < 2 ^ 12 := Nat.lt_of_lt_of_le ha (Nat.pow_le_pow_right (by decide) hp)
    have hb8 : b < 2 ^ 3 := Nat.lt_of_lt_of_le hb2 (Nat.pow_le_pow_right (by decide) ht)
    rw [e, e0 _ (by omega)]
    intro i hi
    have ec : a + 4096 * b = 2 ^ 12 * b + a := by omega
    rw [ec, Nat.testBit_two_pow_mul_add b ha12] at hi
    by_cases c : i < 12
    · rw [if_pos c] at hi
      rw [hb i (by omega)]
      have : i < np := by
        refine Decidable.byContradiction (fun c2 => ?_)
        rw [Nat.testBit_lt_two_pow (Nat.lt_of_lt_of_le ha (Nat.pow_le_pow_right (by decide) (by omega)))] at hi
        exact absurd hi (by decide)
      simp [this]
    · rw [if_neg c] at hi
      have h4 : i - 12 < nt := by
        refine Decidable.byContradiction (fun c2 => ?_)
        rw [Nat.testBit_lt_two_pow (Nat.lt_of_lt_of_le hb2 (Nat.pow_le_pow_right (by decide) (by omega)))] at hi
        exact absurd hi (by decide)
      rw [hb i (by omega)]
      simp
      omega
theorem isp_01 (np nt s : Int) : isp np nt s = 0 ∨ isp np nt s = 1 := by unfold isp; split <;> simp
