/-! THE TEXT read: numbers, one behind the other -/
/-- the byte at a place; 0 behind the end -/
def byt (T : Int → Int) (L a : Nat) : Int := if a < L then T a else 0
/-- how many figures there are, at most k -/
def dgs (b : Nat → Int) : Nat → Nat → Nat
  | 0, _ => 0
  | k + 1, a => if 48 ≤ b a ∧ b a ≤ 57 then dgs b k (a + 1) + 1 else 0
def dval (b : Nat → Int) : Nat → Nat → Int → Int
  | 0, _, v => v
  | k + 1, a, v => dval b k (a + 1) (10 * v + b a - 48)
theorem dgs_le (b : Nat → Int) : ∀ k a, dgs b k a ≤ k
  | 0, _ => Nat.le_refl _
  | k + 1, a => by
    have := dgs_le b k (a + 1)
    unfold dgs
    split <;> omega
theorem dgs_dig (b : Nat → Int) : ∀ k a i, i < dgs b k a → 48 ≤ b (a + i) ∧ b (a + i) ≤ 57
  | 0, _, i, h => absurd h (by unfold dgs; omega)
  | k + 1, a, i, h => by
    unfold dgs at h
    by_cases c : 48 ≤ b a ∧ b a ≤ 57
    · rw [if_pos c] at h
      cases i with
      | zero => exact c
      | succ i =>
        have := dgs_dig b k (a + 1) i (by omega)
        rw [show a + (i + 1) = a + 1 + i by omega]
        exact this
    · rw [if_neg c] at h
      omega
theorem dgs_stop (b : Nat → Int) : ∀ k a, dgs b k a < k → ¬ (48 ≤ b (a + dgs b k a) ∧ b (a + dgs b k a) ≤ 57)
  | 0, _, h => absurd h (by omega)
  | k + 1, a, h => by
    unfold dgs at h ⊢
    by_cases c : 48 ≤ b a ∧ b a ≤ 57
    · rw [if_pos c] at h ⊢
      have := dgs_stop b k (a + 1) (by omega)
      rw [show a + (dgs b k (a + 1) + 1) = a + 1 + dgs b k (a + 1) by omega]
      exact this
    · rw [if_neg c] at h ⊢
      exact c
theorem dgs_is {b : Nat → Int} : ∀ k a n, n ≤ k → (∀ i, i < n → 48 ≤ b (a + i) ∧ b (a + i) ≤ 57) → (n < k → ¬ (48 ≤ b (a + n) ∧ b (a + n) ≤ 57)) → dgs b k a = n
  | 0, a, n, h, _, _ => by unfold dgs; omega
  | k + 1, a, 0, h, _, h2 => by
    unfold dgs
    rw [if_neg (show ¬ (48 ≤ b a ∧ b a ≤ 57) from h2 (by omega))]
  | k + 1, a, n + 1, h, h1, h2 => by
    unfold dgs
    rw [if_pos (show 48 ≤ b a ∧ b a ≤ 57 from h1 0 (by omega))]
    have := dgs_is (b := b) k (a + 1) n (by omega) (fun i hi => by
      have := h1 (i + 1) (by omega)
      rw [show a + (i + 1) = a + 1 + i by omega] at this
      exact this) (fun hn => by
      have := h2 (by omega)
      rw [show a + (n + 1) = a + 1 + n by omega] at this
      exact this)
    omega
/-- three figures are looked at, or four: the same if the byte behind them is none -/
theorem dgs_34 {b : Nat → Int} {a : Nat} (h : ¬ (48 ≤ b (a + dgs b 3 a) ∧ b (a + dgs b 3 a) ≤ 57)) : dgs b 4 a = dgs b 3 a := dgs_is 4 a _ (by have := dgs_le b 3 a; omega) (fun i hi => dgs_dig b 3 a i hi) (fun _ => h)
theorem dgs_43 {b : Nat → Int} {a : Nat} (h : dgs b 4 a ≤ 3) : dgs b 3 a = dgs b 4 a := dgs_is 3 a _ h (fun i hi => dgs_dig b 4 a i hi) (fun _ => dgs_stop b 4 a (by omega))
theorem dval_snoc (b : Nat → Int) : ∀ n a v, dval b (n + 1) a v = 10 * dval b n a v + b (a + n) - 48
  | 0, a, v => rfl
  | n + 1, a, v => by
    show dval b (n + 1) (a + 1) (10 * v + b a - 48) = 10 * dval b n (a + 1) (10 * v + b a - 48) + _ - 48
    rw [dval_snoc b n (a + 1), show a + 1 + n = a + (n + 1) by omega]
theorem dval_rg {b : Nat → Int} {a : Nat} : ∀ n, (∀ i, i < n → 48 ≤ b (a + i) ∧ b (a + i) ≤ 57) → 0 ≤ dval b n a 0 ∧ (n ≤ 1 → dval b n a 0 ≤ 9) ∧ (n ≤ 2 → dval b n a 0 ≤ 99) ∧ (n ≤ 3 → dval b n a 0 ≤ 999) ∧ (n ≤ 4 → dval b n a 0 ≤ 9999)
  | 0, _ => by unfold dval; omega
  | n + 1, h => by
    have ih := dval_rg (b := b) (a := a) n (fun i hi => h i (by omega))
    have := h n (by omega)
    rw [dval_snoc]
    cases n with
    | zero => rw [show dval b 0 a 0 = 0 from rfl] at *; omega
    | succ n => omega
/-- so many numbers, parted by , and ended by ; : what they are, and where it goes on -/
def nums (b : Nat → Int) : Nat → Nat → Option (List Int × Nat)
  | 0, a => some ([], a)
  | k + 1, a => if (1 ≤ dgs b 4 a ∧ dgs b 4 a ≤ 3) ∧ b (a + dgs b 4 a) = (if k = 0 then 59 else 44) then (match nums b k (a + dgs b 4 a + 1) with
    | some (l, e) => some (dval b (dgs b 4 a) a 0 :: l, e)
    | none => none) else none
theorem nums_s (b : Nat → Int) (k a : Nat) : nums b (k + 1) a = if (1 ≤ dgs b 4 a ∧ dgs b 4 a ≤ 3) ∧ b (a + dgs b 4 a) = (if k = 0 then 59 else 44) then (match nums b k (a + dgs b 4 a + 1) with
    | some (l, e) => some (dval b (dgs b 4 a) a 0 :: l, e)
    | none => none) else none := rfl
theorem nums_rg {T : Int → Int} {L : Nat} : ∀ (k a : Nat) (l : List Int) (e : Nat), nums (byt T L) k a = some (l, e) → l.length = k ∧ a + 2 * k ≤ e ∧ e ≤ a + 4 * k ∧ (1 ≤ k → e ≤ L) ∧ ∀ x ∈ l, 0 ≤ x ∧ x ≤ 999
  | 0, a, l, e, h => by
    have h : some (([] : List Int), a) = some (l, e) := h
    simp only [Option.some.injEq, Prod.mk.injEq] at h
    obtain ⟨rfl, rfl⟩ := h
    refine ⟨rfl, by omega, by omega, fun x => absurd x (by omega), fun x hx => absurd hx (by simp)⟩
  | k + 1, a, l, e, h => by
    rw [nums_s] at h
    by_cases c : (1 ≤ dgs (byt T L) 4 a ∧ dgs (byt T L) 4 a ≤ 3) ∧ byt T L (a + dgs (byt T L) 4 a) = (if k = 0 then 59 else 44)
    · rw [if_pos c] at h
      cases hn : nums (byt T L) k (a + dgs (byt T L) 4 a + 1) with
      | none => rw [hn] at h; exact absurd h (by simp)
      | some p =>
        obtain ⟨l2, e2⟩ := p
        rw [hn] at h
        simp only [Option.some.injEq, Prod.mk.injEq] at h
        obtain ⟨rfl, rfl⟩ := h
        obtain ⟨i1, i2, i3, i4, i5⟩ := nums_rg k _ l2 e2 hn
        have hv := dval_rg (b := byt T L) (a := a) (dgs (byt T L) 4 a) (fun i hi => dgs_dig _ 4 a i hi)
        refine ⟨by simp [i1], by omega, by omega, fun _ => ?_, fun x hx => ?_⟩
        · by_cases c0 : k = 0
          · subst c0
            have hn : some (([] : List Int), a + dgs (byt T L) 4 a + 1) = some (l2, e2) := hn
            simp only [Option.some.injEq, Prod.mk.injEq] at hn
            have c2 := c.2
            unfold byt at c2
            rw [if_pos (show (0 : Nat) = 0 from rfl)] at c2
            by_cases c3 : a + dgs (byt T L) 4 a < L
            · omega
            · unfold byt at c3
              rw [if_neg c3] at c2
              omega
          · exact i4 (by omega)
        · rcases List.mem_cons.1 hx with rfl | hx
          · omega
          · exact i5 x hx
    · rw [if_neg c] at h
      exact absurd h (by simp)
theorem s_isFigure (d : Nat) (x : Int) (hx : i32 x) (H : bg_H) (Rt : bg_R) (hR : Rt (some (.inl (if 48 ≤ x ∧ x ≤ 57 then 1 else 0))) H) : bg_Ca bg_MS (d + 1) 68 [vI x] H Rt := by
  refine bg_ca (cd := cd_X6_isFigure) rfl rfl ?_
  intro X hX
  iterate 2 (refine hX _ ?_; conv => whnf)
  refine hX _ ?_; conv => whnf
  refine ⟨fun q3 => ?_, fun q3 => ?_⟩
  · try simp (disch := omega) only [bg_w_id, Int.toNat_natCast, rw_land, sh_land, not_true_eq_false, kc0, kc1, kc2, kc3, kc4, kc5, kc6, kc7, kc8, kc9, kc10, kc11, kc12, kc13, kc14, kc15, kc16, kc17, kc18, kc19, kc20, kc21, kc22, kc23, kc24, kc25, kc26, kc27, kc28, kc29, kc30, kc31, kc32, kc33] at q3
    refine hX _ ?_; conv => whnf
    refine hX _ ?_; conv => whnf
    first | (rw [if_pos (by omega)] at hR; exact ⟨by omega, hR⟩) | (rw [if_neg (by omega)] at hR; exact ⟨by omega, hR⟩)
  · try simp (disch := omega) only [bg_w_id, Int.toNat_natCast, rw_land, sh_land, not_true_eq_false, kc0, kc1, kc2, kc3, kc4, kc5, kc6, kc7, kc8, kc9, kc10, kc11, kc12, kc13, kc14, kc15, kc16, kc17, kc18, kc19, kc20, kc21, kc22, kc23, kc24, kc25, kc26, kc27, kc28, kc29, kc30, kc31, kc32, kc33] at q3
    iterate 2 (refine hX _ ?_; conv => whnf)
    refine hX _ ?_; conv => whnf
    refine ⟨fun q9 => ?_, fun q9 => ?_⟩
    · try simp (disch := omega) only [bg_w_id, Int.toNat_natCast, rw_land, sh_land, not_true_eq_false, kc0, kc1, kc2, kc3, kc4, kc5, kc6, kc7, kc8, kc9, kc10, kc11, kc12, kc13, kc14, kc15, kc16, kc17, kc18, kc19, kc20, kc21, kc22, kc23, kc24, kc25, kc26, kc27, kc28, kc29, kc30, kc31, kc32, kc33] at q9
      refine hX _ ?_; conv => whnf
      refine hX _ ?_; conv => whnf
      first | (rw [if_pos (by omega)] at hR; exact ⟨by omega, hR⟩) | (rw [if_neg (by omega)] at hR; exact ⟨by omega, hR⟩)
    · try simp (disch := omega) only [bg_w_id, Int.toNat_natCast, rw_land, sh_land, not_true_eq_false, kc0, kc1, kc2, kc3, kc4, kc5, kc6, kc7, kc8, kc9, kc10, kc11, kc12, kc13, kc14, kc15, kc16, kc17, kc18, kc19, kc20, kc21, kc22, kc23, kc24, kc25, kc26, kc27, kc28, kc29, kc30, kc31, kc32, kc33] at q9
      iterate 2 (refine hX _ ?_; conv => whnf)
      refine hX _ ?_; conv => whnf
      first | (rw [if_pos (by omega)] at hR; exact ⟨by omega, hR⟩) | (rw [if_neg (by omega)] at hR; exact ⟨by omega, hR⟩)
/-- the class's text: how long it is, bytes -/
def txC (h : bg_G) (T : Int → Int) (L : Nat) : Prop := h 3 3 = L ∧ L ≤ 400 ∧ ∀ i : Nat, i < L → h 4 i = T i ∧ 0 ≤ T i ∧ T i ≤ 255
theorem s_nextByte (d n a L : Nat) (T : Int → Int) (h : bg_G) (ht : txC h T L) (ha : a ≤ 10000) (h2 : h 3 2 = a) (Rt : bg_R) (hR1 : a < L → Rt (some (.inl (T a))) (bg_SH n, bg_up h 3 2 ((a : Int) + 1))) (hR0 : ¬ a < L → Rt (some (.inl (-1))) (bg_SH n, h)) : bg_Ca bg_MS (d + 1) 67 [vR 3] (bg_SH n, h) Rt := by
  obtain ⟨t1, t2, t3⟩ := ht
  refine bg_ca (cd := cd_X6_nextByte) rfl rfl ?_
  intro X hX
  by_cases c : a < L
  · have hR1 := hR1 c
    rw [← (t3 a c).1] at hR1
    iterate 2 (refine hX _ ?_; conv => whnf)
    try simp only [kc0, kc1, kc2, kc3, kc4, kc5, kc6, kc7, kc8, kc9, kc10, kc11, kc12, kc13, kc14, kc15, kc16, kc17, kc18, kc19, kc20, kc21, kc22, kc23, kc24, kc25, kc26, kc27, kc28, kc29, kc30, kc31, kc32, kc33]
    refine hX _ ?_; conv => whnf
    refine ⟨fun q4 => ?_, fun q4 => ?_⟩
    · exfalso
      (try simp (disch := omega) only [bg_w_id, Int.toNat_natCast, rw_land, sh_land, not_true_eq_false, h2, t1, kc0, kc1, kc2, kc3, kc4, kc5, kc6, kc7, kc8, kc9, kc10, kc11, kc12, kc13, kc14, kc15, kc16, kc17, kc18, kc19, kc20, kc21, kc22, kc23, kc24, kc25, kc26, kc27, kc28, kc29, kc30, kc31, kc32, kc33] at q4) <;> (omega)
    · try simp (disch := omega) only [bg_w_id, Int.toNat_natCast, rw_land, sh_land, not_true_eq_false, h2, t1, kc0, kc1, kc2, kc3, kc4, kc5, kc6, kc7, kc8, kc9, kc10, kc11, kc12, kc13, kc14, kc15, kc16, kc17, kc18, kc19, kc20, kc21, kc22, kc23, kc24, kc25, kc26, kc27, kc28, kc29, kc30, kc31, kc32, kc33] at q4
      iterate 4 (refine hX _ ?_; conv => whnf)
      try simp only [kc0, kc1, kc2, kc3, kc4, kc5, kc6, kc7, kc8, kc9, kc10, kc11, kc12, kc13, kc14, kc15, kc16, kc17, kc18, kc19, kc20, kc21, kc22, kc23, kc24, kc25, kc26, kc27, kc28, kc29, kc30, kc31, kc32, kc33]
      refine hX _ ?_; conv => whnf
      refine ⟨fun q15 => ?_, fun q15 => ?_⟩
      · try simp (disch := omega) only [bg_w_id, Int.toNat_natCast, rw_land, sh_land, not_true_eq_false, h2, t1, kc0, kc1, kc2, kc3, kc4, kc5, kc6, kc7, kc8, kc9, kc10, kc11, kc12, kc13, kc14, kc15, kc16, kc17, kc18, kc19, kc20, kc21, kc22, kc23, kc24, kc25, kc26, kc27, kc28, kc29, kc30, kc31, kc32, kc33] at q15
        iterate 4 (refine hX _ ?_; conv => whnf)
        refine hX _ ?_; conv => whnf
        try (simp (disch := omega) only [bg_w_id, Int.toNat_natCast, rw_land, sh_land, not_true_eq_false, h2, t1, kc0, kc1, kc2, kc3, kc4, kc5, kc6, kc7, kc8, kc9, kc10, kc11, kc12, kc13, kc14, kc15, kc16, kc17, kc18, kc19, kc20, kc21, kc22, kc23, kc24, kc25, kc26, kc27, kc28, kc29, kc30, kc31, kc32, kc33]; try conv => whnf)
        refine ⟨by first | omega | (simp (disch := omega) only [bg_w_id, Int.toNat_natCast, rw_land, sh_land, not_true_eq_false, h2, t1, kc0, kc1, kc2, kc3, kc4, kc5, kc6, kc7, kc8, kc9, kc10, kc11, kc12, kc13, kc14, kc15, kc16, kc17, kc18, kc19, kc20, kc21, kc22, kc23, kc24, kc25, kc26, kc27, kc28, kc29, kc30, kc31, kc32, kc33]; omega), ?_⟩
        iterate 8 (refine hX _ ?_; conv => whnf)
        try simp only [kc0, kc1, kc2, kc3, kc4, kc5, kc6, kc7, kc8, kc9, kc10, kc11, kc12, kc13, kc14, kc15, kc16, kc17, kc18, kc19, kc20, kc21, kc22, kc23, kc24, kc25, kc26, kc27, kc28, kc29, kc30, kc31, kc32, kc33]
        refine hX _ ?_; conv => whnf
        rw [h2]
        exact hR1
      · exfalso
        (try simp (disch := omega) only [bg_w_id, Int.toNat_natCast, rw_land, sh_land, not_true_eq_false, h2, t1, kc0, kc1, kc2, kc3, kc4, kc5, kc6, kc7, kc8, kc9, kc10, kc11, kc12, kc13, kc14, kc15, kc16, kc17, kc18, kc19, kc20, kc21, kc22, kc23, kc24, kc25, kc26, kc27, kc28, kc29, kc30, kc31, kc32, kc33] at q15) <;> (omega)
  · iterate 2 (refine hX _ ?_; conv => whnf)
    try simp only [kc0, kc1, kc2, kc3, kc4, kc5, kc6, kc7, kc8, kc9, kc10, kc11, kc12, kc13, kc14, kc15, kc16, kc17, kc18, kc19, kc20, kc21, kc22, kc23, kc24, kc25, kc26, kc27, kc28, kc29, kc30, kc31, kc32, kc33]
    refine hX _ ?_; conv => whnf
    refine ⟨fun q4 => ?_, fun q4 => ?_⟩
    · exfalso
      (try simp (disch := omega) only [bg_w_id, Int.toNat_natCast, rw_land, sh_land, not_true_eq_false, h2, t1, kc0, kc1, kc2, kc3, kc4, kc5, kc6, kc7, kc8, kc9, kc10, kc11, kc12, kc13, kc14, kc15, kc16, kc17, kc18, kc19, kc20, kc21, kc22, kc23, kc24, kc25, kc26, kc27, kc28, kc29, kc30, kc31, kc32, kc33] at q4) <;> (omega)
    · try simp (disch := omega) only [bg_w_id, Int.toNat_natCast, rw_land, sh_land, not_true_eq_false, h2, t1, kc0, kc1, kc2, kc3, kc4, kc5, kc6, kc7, kc8, kc9, kc10, kc11, kc12, kc13, kc14, kc15, kc16, kc17, kc18, kc19, kc20, kc21, kc22, kc23, kc24, kc25, kc26, kc27, kc28, kc29, kc30, kc31, kc32, kc33] at q4
      iterate 4 (refine hX _ ?_; conv => whnf)
      try simp only [kc0, kc1, kc2, kc3, kc4, kc5, kc6, kc7, kc8, kc9, kc10, kc11, kc12, kc13, kc14, kc15, kc16, kc17, kc18, kc19, kc20, kc21, kc22, kc23, kc24, kc25, kc26, kc27, kc28, kc29, kc30, kc31, kc32, kc33]
      refine hX _ ?_; conv => whnf
      refine ⟨fun q15 => ?_, fun q15 => ?_⟩
      · exfalso
        (try simp (disch := omega) only [bg_w_id, Int.toNat_natCast, rw_land, sh_land, not_true_eq_false, h2, t1, kc0, kc1, kc2, kc3, kc4, kc5, kc6, kc7, kc8, kc9, kc10, kc11, kc12, kc13, kc14, kc15, kc16, kc17, kc18, kc19, kc20, kc21, kc22, kc23, kc24, kc25, kc26, kc27, kc28, kc29, kc30, kc31, kc32, kc33] at q15) <;> (omega)
      · try simp (disch := omega) only [bg_w_id, Int.toNat_natCast, rw_land, sh_land, not_true_eq_false, h2, t1, kc0, kc1, kc2, kc3, kc4, kc5, kc6, kc7, kc8, kc9, kc10, kc11, kc12, kc13, kc14, kc15, kc16, kc17, kc18, kc19, kc20, kc21, kc22, kc23, kc24, kc25, kc26, kc27, kc28, kc29, kc30, kc31, kc32, kc33] at q15
        refine hX _ ?_; conv => whnf
        refine hX _ ?_; conv => whnf
        exact hR0 c
theorem s_readNumber (d n a L : Nat) (T : Int → Int) (h : bg_G) (ht : txC h T L) (ha : a ≤ 9000) (h2 : h 3 2 = a) (Rt : bg_R) (hR : ∀ h' : bg_G, (∀ k, k ≠ 3 → h' k = h k) → (∀ j, j ≠ 2 → h' 3 j = h 3 j) → h' 3 2 = ((a + dgs (byt T L) 3 a : Nat) : Int) → Rt (some (.inl (if dgs (byt T L) 3 a = 0 then -1 else dval (byt T L) (dgs (byt T L) 3 a) a 0))) (bg_SH n, h')) : bg_Ca bg_MS (d + 2) 66 [vR 3] (bg_SH n, h) Rt := by
  obtain ⟨t1, t2, t3⟩ := id ht
  refine bg_ca (cd := cd_X6_readNumber) rfl rfl ?_
  intro X hX
  have l1 : ∀ k, k ≤ 3 → (∀ i, i < k → 48 ≤ byt T L (a + i) ∧ byt T L (a + i) ≤ 57) → ∀ (h' : bg_G) (v : Int), (∀ k, k ≠ 3 → h' k = h k) → (∀ j, j ≠ 2 → h' 3 j = h 3 j) → h' 3 2 = ((a + k : Nat) : Int) → v = (if k = 0 then -1 else dval (byt T L) k a 0) → X (4, [oR 3, oI v, oI (k : Int)], [], (bg_SH n, h'), (0, 0)) := by
    refine lp_up 3 _ ?_ (fun k hk ih => ?_)
    · intro hd h' v f1 f2 f3 ev
      have e : dgs (byt T L) 3 a = 3 := dgs_is 3 a 3 (by omega) hd (by omega)
      have hR := hR h' f1 f2 (by rw [e]; exact f3)
      rw [e, ← ev] at hR
      iterate 2 (refine hX _ ?_; conv => whnf)
      refine hX _ ?_; conv => whnf
      refine ⟨fun q6 => ?_, fun q6 => ?_⟩
      · try simp (disch := omega) only [bg_w_id, Int.toNat_natCast, rw_land, sh_land, not_true_eq_false, kc0, kc1, kc2, kc3, kc4, kc5, kc6, kc7, kc8, kc9, kc10, kc11, kc12, kc13, kc14, kc15, kc16, kc17, kc18, kc19, kc20, kc21, kc22, kc23, kc24, kc25, kc26, kc27, kc28, kc29, kc30, kc31, kc32, kc33] at q6
        refine hX _ ?_; conv => whnf
        refine hX _ ?_; conv => whnf
        exact hR
      · exfalso
        (try simp (disch := omega) only [bg_w_id, Int.toNat_natCast, rw_land, sh_land, not_true_eq_false, kc0, kc1, kc2, kc3, kc4, kc5, kc6, kc7, kc8, kc9, kc10, kc11, kc12, kc13, kc14, kc15, kc16, kc17, kc18, kc19, kc20, kc21, kc22, kc23, kc24, kc25, kc26, kc27, kc28, kc29, kc30, kc31, kc32, kc33] at q6) <;> (omega)
    · intro hd h' v f1 f2 f3 ev
      have e3 : h' 3 3 = (L : Int) := by rw [f2 3 (by omega), t1]
      have e4 : h' 4 = h 4 := f1 4 (by omega)
      have rv := dval_rg (b := byt T L) (a := a) k hd
      by_cases c : 48 ≤ byt T L (a + k) ∧ byt T L (a + k) ≤ 57
      · have cL : a + k < L := by
          by_cases x : a + k < L
          · exact x
          · unfold byt at c
            rw [if_neg x] at c
            omega
        have eT : byt T L (a + k) = T ((a + k : Nat) : Int) := by unfold byt; rw [if_pos cL]
        have t4 := t3 (a + k) cL
        rw [eT] at c
        have em : (if v < 0 then (0 : Int) else v) = dval (byt T L) k a 0 := by
          rw [ev]
          by_cases c0 : k = 0
          · subst c0
            rw [if_pos rfl, if_pos (by omega)]
            rfl
          · rw [if_neg c0, if_neg (by omega)]
        have e4a : h' 4 ((a + k : Nat) : Int) = T ((a + k : Nat) : Int) := by rw [e4]; exact t4.1
        iterate 2 (refine hX _ ?_; conv => whnf)
        refine hX _ ?_; conv => whnf
        refine ⟨fun q6 => ?_, fun q6 => ?_⟩
        · exfalso
          (try simp (disch := omega) only [bg_w_id, Int.toNat_natCast, rw_land, sh_land, not_true_eq_false, f3, e3, kc0, kc1, kc2, kc3, kc4, kc5, kc6, kc7, kc8, kc9, kc10, kc11, kc12, kc13, kc14, kc15, kc16, kc17, kc18, kc19, kc20, kc21, kc22, kc23, kc24, kc25, kc26, kc27, kc28, kc29, kc30, kc31, kc32, kc33] at q6) <;> (omega)
        · try simp (disch := omega) only [bg_w_id, Int.toNat_natCast, rw_land, sh_land, not_true_eq_false, f3, e3, kc0, kc1, kc2, kc3, kc4, kc5, kc6, kc7, kc8, kc9, kc10, kc11, kc12, kc13, kc14, kc15, kc16, kc17, kc18, kc19, kc20, kc21, kc22, kc23, kc24, kc25, kc26, kc27, kc28, kc29, kc30, kc31, kc32, kc33] at q6
          iterate 2 (refine hX _ ?_; conv => whnf)
          try simp only [kc0, kc1, kc2, kc3, kc4, kc5, kc6, kc7, kc8, kc9, kc10, kc11, kc12, kc13, kc14, kc15, kc16, kc17, kc18, kc19, kc20, kc21, kc22, kc23, kc24, kc25, kc26, kc27, kc28, kc29, kc30, kc31, kc32, kc33]
          refine hX _ ?_; conv => whnf
          refine ⟨fun q13 => ?_, fun q13 => ?_⟩
          · exfalso
            (try simp (disch := omega) only [bg_w_id, Int.toNat_natCast, rw_land, sh_land, not_true_eq_false, f3, e3, kc0, kc1, kc2, kc3, kc4, kc5, kc6, kc7, kc8, kc9, kc10, kc11, kc12, kc13, kc14, kc15, kc16, kc17, kc18, kc19, kc20, kc21, kc22, kc23, kc24, kc25, kc26, kc27, kc28, kc29, kc30, kc31, kc32, kc33] at q13) <;> (omega)
          · try simp (disch := omega) only [bg_w_id, Int.toNat_natCast, rw_land, sh_land, not_true_eq_false, f3, e3, kc0, kc1, kc2, kc3, kc4, kc5, kc6, kc7, kc8, kc9, kc10, kc11, kc12, kc13, kc14, kc15, kc16, kc17, kc18, kc19, kc20, kc21, kc22, kc23, kc24, kc25, kc26, kc27, kc28, kc29, kc30, kc31, kc32, kc33] at q13
            iterate 4 (refine hX _ ?_; conv => whnf)
            try simp only [kc0, kc1, kc2, kc3, kc4, kc5, kc6, kc7, kc8, kc9, kc10, kc11, kc12, kc13, kc14, kc15, kc16, kc17, kc18, kc19, kc20, kc21, kc22, kc23, kc24, kc25, kc26, kc27, kc28, kc29, kc30, kc31, kc32, kc33]
            refine hX _ ?_; conv => whnf
            refine ⟨fun q24 => ?_, fun q24 => ?_⟩
            · exfalso
              (try simp (disch := omega) only [bg_w_id, Int.toNat_natCast, rw_land, sh_land, not_true_eq_false, f3, e3, kc0, kc1, kc2, kc3, kc4, kc5, kc6, kc7, kc8, kc9, kc10, kc11, kc12, kc13, kc14, kc15, kc16, kc17, kc18, kc19, kc20, kc21, kc22, kc23, kc24, kc25, kc26, kc27, kc28, kc29, kc30, kc31, kc32, kc33] at q24) <;> (omega)
            · try simp (disch := omega) only [bg_w_id, Int.toNat_natCast, rw_land, sh_land, not_true_eq_false, f3, e3, kc0, kc1, kc2, kc3, kc4, kc5, kc6, kc7, kc8, kc9, kc10, kc11, kc12, kc13, kc14, kc15, kc16, kc17, kc18, kc19, kc20, kc21, kc22, kc23, kc24, kc25, kc26, kc27, kc28, kc29, kc30, kc31, kc32, kc33] at q24
              iterate 4 (refine hX _ ?_; conv => whnf)
              refine hX _ ?_; conv => whnf
              try (simp (disch := omega) only [bg_w_id, Int.toNat_natCast, rw_land, sh_land, not_true_eq_false, f3, e3, kc0, kc1, kc2, kc3, kc4, kc5, kc6, kc7, kc8, kc9, kc10, kc11, kc12, kc13, kc14, kc15, kc16, kc17, kc18, kc19, kc20, kc21, kc22, kc23, kc24, kc25, kc26, kc27, kc28, kc29, kc30, kc31, kc32, kc33]; try conv => whnf)
              refine ⟨by first | omega | (simp (disch := omega) only [bg_w_id, Int.toNat_natCast, rw_land, sh_land, not_true_eq_false, f3, e3, kc0, kc1, kc2, kc3, kc4, kc5, kc6, kc7, kc8, kc9, kc10, kc11, kc12, kc13, kc14, kc15, kc16, kc17, kc18, kc19, kc20, kc21, kc22, kc23, kc24, kc25, kc26, kc27, kc28, kc29, kc30, kc31, kc32, kc33]; omega), ?_⟩
              try simp only [kc0, kc1, kc2, kc3, kc4, kc5, kc6, kc7, kc8, kc9, kc10, kc11, kc12, kc13, kc14, kc15, kc16, kc17, kc18, kc19, kc20, kc21, kc22, kc23, kc24, kc25, kc26, kc27, kc28, kc29, kc30, kc31, kc32, kc33]
              refine hX _ ?_; conv => whnf
              try simp (disch := omega) only [bg_w_id, Int.toNat_natCast, rw_land, sh_land, not_true_eq_false, f3, e3]
              rw [e4a]
              refine s_isFigure d _ (by omega) _ _ ?_
              rw [if_pos c]
              conv => whnf
              refine hX _ ?_; conv => whnf
              refine ⟨fun q39 => ?_, fun q39 => ?_⟩
              · exfalso
                (try simp (disch := omega) only [bg_w_id, Int.toNat_natCast, rw_land, sh_land, not_true_eq_false, f3, e3, kc0, kc1, kc2, kc3, kc4, kc5, kc6, kc7, kc8, kc9, kc10, kc11, kc12, kc13, kc14, kc15, kc16, kc17, kc18, kc19, kc20, kc21, kc22, kc23, kc24, kc25, kc26, kc27, kc28, kc29, kc30, kc31, kc32, kc33] at q39) <;> (omega)
              · try simp (disch := omega) only [bg_w_id, Int.toNat_natCast, rw_land, sh_land, not_true_eq_false, f3, e3, kc0, kc1, kc2, kc3, kc4, kc5, kc6, kc7, kc8, kc9, kc10, kc11, kc12, kc13, kc14, kc15, kc16, kc17, kc18, kc19, kc20, kc21, kc22, kc23, kc24, kc25, kc26, kc27, kc28, kc29, kc30, kc31, kc32, kc33] at q39
                iterate 9 (refine hX _ ?_; conv => whnf)
                refine hX _ ?_; conv => whnf
                try (simp (disch := omega) only [bg_w_id, Int.toNat_natCast, rw_land, sh_land, not_true_eq_false, f3, e3, kc0, kc1, kc2, kc3, kc4, kc5, kc6, kc7, kc8, kc9, kc10, kc11, kc12, kc13, kc14, kc15, kc16, kc17, kc18, kc19, kc20, kc21, kc22, kc23, kc24, kc25, kc26, kc27, kc28, kc29, kc30, kc31, kc32, kc33]; try conv => whnf)
                refine ⟨by first | omega | (simp (disch := omega) only [bg_w_id, Int.toNat_natCast, rw_land, sh_land, not_true_eq_false, f3, e3, kc0, kc1, kc2, kc3, kc4, kc5, kc6, kc7, kc8, kc9, kc10, kc11, kc12, kc13, kc14, kc15, kc16, kc17, kc18, kc19, kc20, kc21, kc22, kc23, kc24, kc25, kc26, kc27, kc28, kc29, kc30, kc31, kc32, kc33]; omega), ?_⟩
                iterate 12 (refine hX _ ?_; conv => whnf)
                try simp only [kc0, kc1, kc2, kc3, kc4, kc5, kc6, kc7, kc8, kc9, kc10, kc11, kc12, kc13, kc14, kc15, kc16, kc17, kc18, kc19, kc20, kc21, kc22, kc23, kc24, kc25, kc26, kc27, kc28, kc29, kc30, kc31, kc32, kc33]
                rw [f3, e4a]
                refine ih ?_ _ _ ?_ ?_ ?_ ?_
                · intro i hi
                  by_cases e : i = k
                  · subst e; rw [eT]; exact c
                  · exact hd i (by omega)
                · intro k' hk'
                  rw [bg_up_ne hk']
                  exact f1 k' hk'
                · intro j hj
                  rw [bg_up_nj hj]
                  exact f2 j hj
                · rw [bg_up_self]
                  omega
                · rw [em, if_neg (by omega), dval_snoc, eT]
                  omega
      · have e : dgs (byt T L) 3 a = k := dgs_is 3 a k (by omega) hd (fun _ => c)
        have hR := hR h' f1 f2 (by rw [e]; exact f3)
        rw [e, ← ev] at hR
        by_cases cL : a + k < L
        · have eT : byt T L (a + k) = T ((a + k : Nat) : Int) := by unfold byt; rw [if_pos cL]
          rw [eT] at c
          have t4 := t3 (a + k) cL
          have e4a : h' 4 ((a + k : Nat) : Int) = T ((a + k : Nat) : Int) := by rw [e4]; exact t4.1
          iterate 2 (refine hX _ ?_; conv => whnf)
          refine hX _ ?_; conv => whnf
          refine ⟨fun q6 => ?_, fun q6 => ?_⟩
          · exfalso
            (try simp (disch := omega) only [bg_w_id, Int.toNat_natCast, rw_land, sh_land, not_true_eq_false, f3, e3, kc0, kc1, kc2, kc3, kc4, kc5, kc6, kc7, kc8, kc9, kc10, kc11, kc12, kc13, kc14, kc15, kc16, kc17, kc18, kc19, kc20, kc21, kc22, kc23, kc24, kc25, kc26, kc27, kc28, kc29, kc30, kc31, kc32, kc33] at q6) <;> (omega)
          · try simp (disch := omega) only [bg_w_id, Int.toNat_natCast, rw_land, sh_land, not_true_eq_false, f3, e3, kc0, kc1, kc2, kc3, kc4, kc5, kc6, kc7, kc8, kc9, kc10, kc11, kc12, kc13, kc14, kc15, kc16, kc17, kc18, kc19, kc20, kc21, kc22, kc23, kc24, kc25, kc26, kc27, kc28, kc29, kc30, kc31, kc32, kc33] at q6
            iterate 2 (refine hX _ ?_; conv => whnf)
            try simp only [kc0, kc1, kc2, kc3, kc4, kc5, kc6, kc7, kc8, kc9, kc10, kc11, kc12, kc13, kc14, kc15, kc16, kc17, kc18, kc19, kc20, kc21, kc22, kc23, kc24, kc25, kc26, kc27, kc28, kc29, kc30, kc31, kc32, kc33]
            refine hX _ ?_; conv => whnf
            refine ⟨fun q13 => ?_, fun q13 => ?_⟩
            · exfalso
              (try simp (disch := omega) only [bg_w_id, Int.toNat_natCast, rw_land, sh_land, not_true_eq_false, f3, e3, kc0, kc1, kc2, kc3, kc4, kc5, kc6, kc7, kc8, kc9, kc10, kc11, kc12, kc13, kc14, kc15, kc16, kc17, kc18, kc19, kc20, kc21, kc22, kc23, kc24, kc25, kc26, kc27, kc28, kc29, kc30, kc31, kc32, kc33] at q13) <;> (omega)
            · try simp (disch := omega) only [bg_w_id, Int.toNat_natCast, rw_land, sh_land, not_true_eq_false, f3, e3, kc0, kc1, kc2, kc3, kc4, kc5, kc6, kc7, kc8, kc9, kc10, kc11, kc12, kc13, kc14, kc15, kc16, kc17, kc18, kc19, kc20, kc21, kc22, kc23, kc24, kc25, kc26, kc27, kc28, kc29, kc30, kc31, kc32, kc33] at q13
              iterate 4 (refine hX _ ?_; conv => whnf)
              try simp only [kc0, kc1, kc2, kc3, kc4, kc5, kc6, kc7, kc8, kc9, kc10, kc11, kc12, kc13, kc14, kc15, kc16, kc17, kc18, kc19, kc20, kc21, kc22, kc23, kc24, kc25, kc26, kc27, kc28, kc29, kc30, kc31, kc32, kc33]
              refine hX _ ?_; conv => whnf
              refine ⟨fun q24 => ?_, fun q24 => ?_⟩
              · exfalso
                (try simp (disch := omega) only [bg_w_id, Int.toNat_natCast, rw_land, sh_land, not_true_eq_false, f3, e3, kc0, kc1, kc2, kc3, kc4, kc5, kc6, kc7, kc8, kc9, kc10, kc11, kc12, kc13, kc14, kc15, kc16, kc17, kc18, kc19, kc20, kc21, kc22, kc23, kc24, kc25, kc26, kc27, kc28, kc29, kc30, kc31, kc32, kc33] at q24) <;> (omega)
              · try simp (disch := omega) only [bg_w_id, Int.toNat_natCast, rw_land, sh_land, not_true_eq_false, f3, e3, kc0, kc1, kc2, kc3, kc4, kc5, kc6, kc7, kc8, kc9, kc10, kc11, kc12, kc13, kc14, kc15, kc16, kc17, kc18, kc19, kc20, kc21, kc22, kc23, kc24, kc25, kc26, kc27, kc28, kc29, kc30, kc31, kc32, kc33] at q24
                iterate 4 (refine hX _ ?_; conv => whnf)
                refine hX _ ?_; conv => whnf
                try (simp (disch := omega) only [bg_w_id, Int.toNat_natCast, rw_land, sh_land, not_true_eq_false, f3, e3, kc0, kc1, kc2, kc3, kc4, kc5, kc6, kc7, kc8, kc9, kc10, kc11, kc12, kc13, kc14, kc15, kc16, kc17, kc18, kc19, kc20, kc21, kc22, kc23, kc24, kc25, kc26, kc27, kc28, kc29, kc30, kc31, kc32, kc33]; try conv => whnf)
                refine ⟨by first | omega | (simp (disch := omega) only [bg_w_id, Int.toNat_natCast, rw_land, sh_land, not_true_eq_false, f3, e3, kc0, kc1, kc2, kc3, kc4, kc5, kc6, kc7, kc8, kc9, kc10, kc11, kc12, kc13, kc14, kc15, kc16, kc17, kc18, kc19, kc20, kc21, kc22, kc23, kc24, kc25, kc26, kc27, kc28, kc29, kc30, kc31, kc32, kc33]; omega), ?_⟩
                try simp only [kc0, kc1, kc2, kc3, kc4, kc5, kc6, kc7, kc8, kc9, kc10, kc11, kc12, kc13, kc14, kc15, kc16, kc17, kc18, kc19, kc20, kc21, kc22, kc23, kc24, kc25, kc26, kc27, kc28, kc29, kc30, kc31, kc32, kc33]
                refine hX _ ?_; conv => whnf
                try simp (disch := omega) only [bg_w_id, Int.toNat_natCast, rw_land, sh_land, not_true_eq_false, f3, e3]
                rw [e4a]
                refine s_isFigure d _ (by omega) _ _ ?_
                rw [if_neg c]
                conv => whnf
                refine hX _ ?_; conv => whnf
                refine ⟨fun q39 => ?_, fun q39 => ?_⟩
                · try simp (disch := omega) only [bg_w_id, Int.toNat_natCast, rw_land, sh_land, not_true_eq_false, f3, e3, kc0, kc1, kc2, kc3, kc4, kc5, kc6, kc7, kc8, kc9, kc10, kc11, kc12, kc13, kc14, kc15, kc16, kc17, kc18, kc19, kc20, kc21, kc22, kc23, kc24, kc25, kc26, kc27, kc28, kc29, kc30, kc31, kc32, kc33] at q39
                  refine hX _ ?_; conv => whnf
                  refine hX _ ?_; conv => whnf
                  exact hR
                · exfalso
                  (try simp (disch := omega) only [bg_w_id, Int.toNat_natCast, rw_land, sh_land, not_true_eq_false, f3, e3, kc0, kc1, kc2, kc3, kc4, kc5, kc6, kc7, kc8, kc9, kc10, kc11, kc12, kc13, kc14, kc15, kc16, kc17, kc18, kc19, kc20, kc21, kc22, kc23, kc24, kc25, kc26, kc27, kc28, kc29, kc30, kc31, kc32, kc33] at q39) <;> (omega)
        · iterate 2 (refine hX _ ?_; conv => whnf)
          refine hX _ ?_; conv => whnf
          refine ⟨fun q6 => ?_, fun q6 => ?_⟩
          · exfalso
            (try simp (disch := omega) only [bg_w_id, Int.toNat_natCast, rw_land, sh_land, not_true_eq_false, f3, e3, kc0, kc1, kc2, kc3, kc4, kc5, kc6, kc7, kc8, kc9, kc10, kc11, kc12, kc13, kc14, kc15, kc16, kc17, kc18, kc19, kc20, kc21, kc22, kc23, kc24, kc25, kc26, kc27, kc28, kc29, kc30, kc31, kc32, kc33] at q6) <;> (omega)
          · try simp (disch := omega) only [bg_w_id, Int.toNat_natCast, rw_land, sh_land, not_true_eq_false, f3, e3, kc0, kc1, kc2, kc3, kc4, kc5, kc6, kc7, kc8, kc9, kc10, kc11, kc12, kc13, kc14, kc15, kc16, kc17, kc18, kc19, kc20, kc21, kc22, kc23, kc24, kc25, kc26, kc27, kc28, kc29, kc30, kc31, kc32, kc33] at q6
            iterate 2 (refine hX _ ?_; conv => whnf)
            try simp only [kc0, kc1, kc2, kc3, kc4, kc5, kc6, kc7, kc8, kc9, kc10, kc11, kc12, kc13, kc14, kc15, kc16, kc17, kc18, kc19, kc20, kc21, kc22, kc23, kc24, kc25, kc26, kc27, kc28, kc29, kc30, kc31, kc32, kc33]
            refine hX _ ?_; conv => whnf
            refine ⟨fun q13 => ?_, fun q13 => ?_⟩
            · exfalso
              (try simp (disch := omega) only [bg_w_id, Int.toNat_natCast, rw_land, sh_land, not_true_eq_false, f3, e3, kc0, kc1, kc2, kc3, kc4, kc5, kc6, kc7, kc8, kc9, kc10, kc11, kc12, kc13, kc14, kc15, kc16, kc17, kc18, kc19, kc20, kc21, kc22, kc23, kc24, kc25, kc26, kc27, kc28, kc29, kc30, kc31, kc32, kc33] at q13) <;> (omega)
            · try simp (disch := omega) only [bg_w_id, Int.toNat_natCast, rw_land, sh_land, not_true_eq_false, f3, e3, kc0, kc1, kc2, kc3, kc4, kc5, kc6, kc7, kc8, kc9, kc10, kc11, kc12, kc13, kc14, kc15, kc16, kc17, kc18, kc19, kc20, kc21, kc22, kc23, kc24, kc25, kc26, kc27, kc28, kc29, kc30, kc31, kc32, kc33] at q13
              iterate 4 (refine hX _ ?_; conv => whnf)
              try simp only [kc0, kc1, kc2, kc3, kc4, kc5, kc6, kc7, kc8, kc9, kc10, kc11, kc12, kc13, kc14, kc15, kc16, kc17, kc18, kc19, kc20, kc21, kc22, kc23, kc24, kc25, kc26, kc27, kc28, kc29, kc30, kc31, kc32, kc33]
              refine hX _ ?_; conv => whnf
              refine ⟨fun q24 => ?_, fun q24 => ?_⟩
              · try simp (disch := omega) only [bg_w_id, Int.toNat_natCast, rw_land, sh_land, not_true_eq_false, f3, e3, kc0, kc1, kc2, kc3, kc4, kc5, kc6, kc7, kc8, kc9, kc10, kc11, kc12, kc13, kc14, kc15, kc16, kc17, kc18, kc19, kc20, kc21, kc22, kc23, kc24, kc25, kc26, kc27, kc28, kc29, kc30, kc31, kc32, kc33] at q24
                refine hX _ ?_; conv => whnf
                refine hX _ ?_; conv => whnf
                exact hR
              · exfalso
                (try simp (disch := omega) only [bg_w_id, Int.toNat_natCast, rw_land, sh_land, not_true_eq_false, f3, e3, kc0, kc1, kc2, kc3, kc4, kc5, kc6, kc7, kc8, kc9, kc10, kc11, kc12, kc13, kc14, kc15, kc16, kc17, kc18, kc19, kc20, kc21, kc22, kc23, kc24, kc25, kc26, kc27, kc28, kc29, kc30, kc31, kc32, kc33] at q24) <;> (omega)
  iterate 4 (refine hX _ ?_; conv => whnf)
  exact l1 0 (by omega) (fun i hi => absurd hi (by omega)) h _ (fun _ _ => rfl) (fun _ _ => rfl) h2 rfl
/-- numbers as they come: those of the first k are read, it goes on at a -/
def pfx (b : Nat → Int) (a0 k a : Nat) (pre : List Int) : Prop := pre.length = k ∧ (∀ r l e, 1 ≤ r → nums b r a = some (l, e) → nums b (k + r) a0 = some (pre ++ l, e)) ∧ (∀ r, 1 ≤ r → nums b r a = none → nums b (k + r) a0 = none)
theorem pfx_0 (b : Nat → Int) (a0 : Nat) : pfx b a0 0 a0 [] := ⟨rfl, fun r l e _ h => by rw [Nat.zero_add]; exact h, fun r _ h => by rw [Nat.zero_add]; exact h⟩
theorem pfx_s {b : Nat → Int} {a0 k a : Nat} {pre : List Int} (h : pfx b a0 k a pre) (h1 : 1 ≤ dgs b 4 a ∧ dgs b 4 a ≤ 3) (h2 : b (a + dgs b 4 a) = 44) : pfx b a0 (k + 1) (a + dgs b 4 a + 1) (pre ++ [dval b (dgs b 4 a) a 0]) := by
  obtain ⟨p1, p2, p3⟩ := h
  refine ⟨by simp [p1], fun r l e hr hn => ?_, fun r hr hn => ?_⟩
  · have := p2 (r + 1) (dval b (dgs b 4 a) a 0 :: l) e (by omega) (by
      rw [nums_s, if_pos ⟨h1, by rw [h2, if_neg (by omega)]⟩, hn])
    rw [show k + 1 + r = k + (r + 1) by omega, this, List.append_assoc]
    rfl
  · have := p3 (r + 1) (by omega) (by rw [nums_s, if_pos ⟨h1, by rw [h2, if_neg (by omega)]⟩, hn])
    rw [show k + 1 + r = k + (r + 1) by omega, this]
theorem pfx_end {b : Nat → Int} {a0 k a : Nat} {pre : List Int} (h : pfx b a0 k a pre) (h1 : 1 ≤ dgs b 4 a ∧ dgs b 4 a ≤ 3) (h2 : b (a + dgs b 4 a) = 59) : nums b (k + 1) a0 = some (pre ++ [dval b (dgs b 4 a) a 0], a + dgs b 4 a + 1) := by
  refine h.2.1 1 _ _ (by omega) ?_
  rw [nums_s, if_pos ⟨h1, by rw [h2, if_pos rfl]⟩]
  rfl
theorem pfx_no {b : Nat → Int} {a0 k a : Nat} {pre : List Int} (h : pfx b a0 k a pre) (h1 : ¬ (1 ≤ dgs b 4 a ∧ dgs b 4 a ≤ 3) ∨ (b (a + dgs b 4 a) ≠ 44 ∧ b (a + dgs b 4 a) ≠ 59)) (r : Nat) (hr : 1 ≤ r) : nums b (k + r) a0 = none := by
  refine h.2.2 r hr ?_
  obtain ⟨q, rfl⟩ : ∃ q, r = q + 1 := ⟨r - 1, by omega⟩
  rw [nums_s, if_neg]
  intro ⟨x, y⟩
  rcases h1 with z | ⟨z1, z2⟩
  · exact z x
  · split at y
    · exact z2 y
    · exact z1 y
theorem s_readNumbers (d n a L : Nat) (T : Int → Int) (h : bg_G) (ht : txC h T L) (ha : a ≤ 401) (h2 : h 3 2 = a) (Rt : bg_R) (hR1 : ∀ (s : Nat) (l : List Int) (e : Nat) (h' : bg_G), 1 ≤ s → s ≤ 7 → nums (byt T L) s a = some (l, e) → (∀ k, k ≠ 3 → k ≠ 5 → h' k = h k) → (∀ j, j ≠ 2 → h' 3 j = h 3 j) → h' 3 2 = e → (∀ (i : Nat) (x : Int), l[i]? = some x → h' 5 i = x) → Rt (some (.inl (s : Int))) (bg_SH n, h')) (hR0 : (∀ s, 1 ≤ s → s ≤ 7 → nums (byt T L) s a = none) → ∀ h' : bg_G, (∀ k, k ≠ 3 → k ≠ 5 → h' k = h k) → (∀ j, j ≠ 2 → h' 3 j = h 3 j) → Rt (some (.inl (-1))) (bg_SH n, h')) : bg_Ca bg_MS (d + 3) 65 [vR 3] (bg_SH n, h) Rt := by
  obtain ⟨t1, t2, t3⟩ := id ht
  refine bg_ca (cd := cd_X6_readNumbers) rfl rfl ?_
  intro X hX
  have l1 : ∀ k, k ≤ 7 → ∀ (p : Nat) (pre : List Int) (h' : bg_G) (j2 j3 : Option bg_V), pfx (byt T L) a k p pre → (∀ s, 1 ≤ s → s ≤ k → nums (byt T L) s a = none) → p ≤ 401 + 5 * k → (∀ k, k ≠ 3 → k ≠ 5 → h' k = h k) → (∀ j, j ≠ 2 → h' 3 j = h 3 j) → h' 3 2 = (p : Int) → (∀ (i : Nat) (x : Int), pre[i]? = some x → h' 5 i = x) → X (2, [oR 3, oI (k : Int), j2, j3], [], (bg_SH n, h'), (0, 0)) := by
    refine lp_up 7 _ ?_ (fun k hk ih => ?_)
    · intro p pre h' j2 j3 hp hno hp4 f1 f2 f3 f4
      iterate 2 (refine hX _ ?_; conv => whnf)
      refine hX _ ?_; conv => whnf
      refine ⟨fun q5 => ?_, fun q5 => ?_⟩
      · try simp (disch := omega) only [bg_w_id, Int.toNat_natCast, rw_land, sh_land, not_true_eq_false, kc0, kc1, kc2, kc3, kc4, kc5, kc6, kc7, kc8, kc9, kc10, kc11, kc12, kc13, kc14, kc15, kc16, kc17, kc18, kc19, kc20, kc21, kc22, kc23, kc24, kc25, kc26, kc27, kc28, kc29, kc30, kc31, kc32, kc33] at q5
        refine hX _ ?_; conv => whnf
        refine hX _ ?_; conv => whnf
        exact hR0 hno h' f1 f2
      · exfalso
        (try simp (disch := omega) only [bg_w_id, Int.toNat_natCast, rw_land, sh_land, not_true_eq_false, kc0, kc1, kc2, kc3, kc4, kc5, kc6, kc7, kc8, kc9, kc10, kc11, kc12, kc13, kc14, kc15, kc16, kc17, kc18, kc19, kc20, kc21, kc22, kc23, kc24, kc25, kc26, kc27, kc28, kc29, kc30, kc31, kc32, kc33] at q5) <;> (omega)
    · intro p pre h' j2 j3 hp hno hp4 f1 f2 f3 f4
      have ht' : txC h' T L := ⟨by rw [f2 3 (by omega)]; exact t1, t2, fun i hi => by rw [f1 4 (by omega) (by omega)]; exact t3 i hi⟩
      have d3 := dgs_le (byt T L) 3 p
      have rv := dval_rg (b := byt T L) (a := p) (dgs (byt T L) 3 p) (fun i hi => dgs_dig _ 3 p i hi)
      obtain ⟨q, hq⟩ : ∃ q, q = dgs (byt T L) 3 p := ⟨_, rfl⟩
      have allno : (¬ (1 ≤ dgs (byt T L) 4 p ∧ dgs (byt T L) 4 p ≤ 3) ∨ (byt T L (p + dgs (byt T L) 4 p) ≠ 44 ∧ byt T L (p + dgs (byt T L) 4 p) ≠ 59)) → ∀ s, 1 ≤ s → s ≤ 7 → nums (byt T L) s a = none := fun hh s hs1 hs7 => by
        by_cases c : s ≤ k
        · exact hno s hs1 c
        · have := pfx_no hp hh (s - k) (by omega)
          rw [show k + (s - k) = s by omega] at this
          exact this
      by_cases c0 : q = 0
      · have n4 : ¬ (1 ≤ dgs (byt T L) 4 p ∧ dgs (byt T L) 4 p ≤ 3) := fun x => by
          have := dgs_43 x.2
          omega
        have hno' := allno (Or.inl n4)
        by_cases cL : p + q < L
        · iterate 2 (refine hX _ ?_; conv => whnf)
          refine hX _ ?_; conv => whnf
          refine ⟨fun q5 => ?_, fun q5 => ?_⟩
          · exfalso
            (try simp (disch := omega) only [bg_w_id, Int.toNat_natCast, rw_land, sh_land, not_true_eq_false, kc0, kc1, kc2, kc3, kc4, kc5, kc6, kc7, kc8, kc9, kc10, kc11, kc12, kc13, kc14, kc15, kc16, kc17, kc18, kc19, kc20, kc21, kc22, kc23, kc24, kc25, kc26, kc27, kc28, kc29, kc30, kc31, kc32, kc33] at q5) <;> (omega)
          · try simp (disch := omega) only [bg_w_id, Int.toNat_natCast, rw_land, sh_land, not_true_eq_false, kc0, kc1, kc2, kc3, kc4, kc5, kc6, kc7, kc8, kc9, kc10, kc11, kc12, kc13, kc14, kc15, kc16, kc17, kc18, kc19, kc20, kc21, kc22, kc23, kc24, kc25, kc26, kc27, kc28, kc29, kc30, kc31, kc32, kc33] at q5
            refine hX _ ?_; conv => whnf
            refine hX _ ?_; conv => whnf
            try simp (disch := omega) only [bg_w_id, Int.toNat_natCast, rw_land, sh_land, not_true_eq_false]
            refine s_readNumber (d + 0) n p L T h' ht' (by omega) f3 _ (fun h2 g1 g2 g3 => ?_)
            rw [← hq] at g3
            rw [← hq, if_pos c0]
            conv => whnf
            iterate 2 (refine hX _ ?_; conv => whnf)
            refine hX _ ?_; conv => whnf
            try simp (disch := omega) only [bg_w_id, Int.toNat_natCast, rw_land, sh_land, not_true_eq_false]
            refine s_nextByte (d + 1) n (p + q) L T h2 ⟨by rw [g2 3 (by omega)]; exact ht'.1, t2, fun i hi => by rw [g1 4 (by omega)]; exact ht'.2.2 i hi⟩ (by omega) g3 _ (fun _ => ?_) (fun e => absurd cL e)
            conv => whnf
            iterate 2 (refine hX _ ?_; conv => whnf)
            refine hX _ ?_; conv => whnf
            refine ⟨fun q19 => ?_, fun q19 => ?_⟩
            · try simp (disch := omega) only [bg_w_id, Int.toNat_natCast, rw_land, sh_land, not_true_eq_false, kc0, kc1, kc2, kc3, kc4, kc5, kc6, kc7, kc8, kc9, kc10, kc11, kc12, kc13, kc14, kc15, kc16, kc17, kc18, kc19, kc20, kc21, kc22, kc23, kc24, kc25, kc26, kc27, kc28, kc29, kc30, kc31, kc32, kc33] at q19
              refine hX _ ?_; conv => whnf
              refine hX _ ?_; conv => whnf
              refine hR0 hno' _ (fun k k1 k2 => ?_) (fun j hj => ?_)
              · rw [bg_up_ne k1, g1 k k1]; exact f1 k k1 k2
              · rw [bg_up_nj hj, g2 j hj]; exact f2 j hj
            · exfalso
              (try simp (disch := omega) only [bg_w_id, Int.toNat_natCast, rw_land, sh_land, not_true_eq_false, kc0, kc1, kc2, kc3, kc4, kc5, kc6, kc7, kc8, kc9, kc10, kc11, kc12, kc13, kc14, kc15, kc16, kc17, kc18, kc19, kc20, kc21, kc22, kc23, kc24, kc25, kc26, kc27, kc28, kc29, kc30, kc31, kc32, kc33] at q19) <;> (omega)
        · iterate 2 (refine hX _ ?_; conv => whnf)
          refine hX _ ?_; conv => whnf
          refine ⟨fun q5 => ?_, fun q5 => ?_⟩
          · exfalso
            (try simp (disch := omega) only [bg_w_id, Int.toNat_natCast, rw_land, sh_land, not_true_eq_false, kc0, kc1, kc2, kc3, kc4, kc5, kc6, kc7, kc8, kc9, kc10, kc11, kc12, kc13, kc14, kc15, kc16, kc17, kc18, kc19, kc20, kc21, kc22, kc23, kc24, kc25, kc26, kc27, kc28, kc29, kc30, kc31, kc32, kc33] at q5) <;> (omega)
          · try simp (disch := omega) only [bg_w_id, Int.toNat_natCast, rw_land, sh_land, not_true_eq_false, kc0, kc1, kc2, kc3, kc4, kc5, kc6, kc7, kc8, kc9, kc10, kc11, kc12, kc13, kc14, kc15, kc16, kc17, kc18, kc19, kc20, kc21, kc22, kc23, kc24, kc25, kc26, kc27, kc28, kc29, kc30, kc31, kc32, kc33] at q5
            refine hX _ ?_; conv => whnf
            refine hX _ ?_; conv => whnf
            try simp (disch := omega) only [bg_w_id, Int.toNat_natCast, rw_land, sh_land, not_true_eq_false]
            refine s_readNumber (d + 0) n p L T h' ht' (by omega) f3 _ (fun h2 g1 g2 g3 => ?_)
            rw [← hq] at g3
            rw [← hq, if_pos c0]
            conv => whnf
            iterate 2 (refine hX _ ?_; conv => whnf)
            refine hX _ ?_; conv => whnf
            try simp (disch := omega) only [bg_w_id, Int.toNat_natCast, rw_land, sh_land, not_true_eq_false]
            refine s_nextByte (d + 1) n (p + q) L T h2 ⟨by rw [g2 3 (by omega)]; exact ht'.1, t2, fun i hi => by rw [g1 4 (by omega)]; exact ht'.2.2 i hi⟩ (by omega) g3 _ (fun e => absurd e cL) (fun _ => ?_)
            conv => whnf
            iterate 2 (refine hX _ ?_; conv => whnf)
            refine hX _ ?_; conv => whnf
            refine ⟨fun q19 => ?_, fun q19 => ?_⟩
            · try simp (disch := omega) only [bg_w_id, Int.toNat_natCast, rw_land, sh_land, not_true_eq_false, kc0, kc1, kc2, kc3, kc4, kc5, kc6, kc7, kc8, kc9, kc10, kc11, kc12, kc13, kc14, kc15, kc16, kc17, kc18, kc19, kc20, kc21, kc22, kc23, kc24, kc25, kc26, kc27, kc28, kc29, kc30, kc31, kc32, kc33] at q19
              refine hX _ ?_; conv => whnf
              refine hX _ ?_; conv => whnf
              refine hR0 hno' _ (fun k k1 k2 => ?_) (fun j hj => ?_)
              · rw [g1 k k1]; exact f1 k k1 k2
              · rw [g2 j hj]; exact f2 j hj
            · exfalso
              (try simp (disch := omega) only [bg_w_id, Int.toNat_natCast, rw_land, sh_land, not_true_eq_false, kc0, kc1, kc2, kc3, kc4, kc5, kc6, kc7, kc8, kc9, kc10, kc11, kc12, kc13, kc14, kc15, kc16, kc17, kc18, kc19, kc20, kc21, kc22, kc23, kc24, kc25, kc26, kc27, kc28, kc29, kc30, kc31, kc32, kc33] at q19) <;> (omega)
      · by_cases cL : p + q < L
        · have eT : byt T L (p + q) = T ((p + q : Nat) : Int) := by unfold byt; rw [if_pos cL]
          have t4 := t3 (p + q) cL
          obtain ⟨c, hc⟩ : ∃ c : Int, c = T ((p + q : Nat) : Int) := ⟨_, rfl⟩
          rw [← hc] at t4 eT
          have good : c = 44 ∨ c = 59 → dgs (byt T L) 4 p = q := fun hh => by rw [hq]; exact dgs_34 (by rw [← hq, eT]; omega)
          have bad : ¬ (c = 44 ∨ c = 59) → ∀ s, 1 ≤ s → s ≤ 7 → nums (byt T L) s a = none := fun hh => by
            refine allno ?_
            by_cases x : dgs (byt T L) 4 p ≤ 3
            · right
              rw [← dgs_43 x, ← hq, eT]
              omega
            · left
              omega
          have ev : (if dgs (byt T L) 3 p = 0 then (-1 : Int) else dval (byt T L) (dgs (byt T L) 3 p) p 0) = dval (byt T L) q p 0 := by rw [← hq, if_neg c0]
          rw [← hq] at rv
          obtain ⟨v, hv⟩ : ∃ v : Int, v = dval (byt T L) q p 0 := ⟨_, rfl⟩
          rw [← hv] at rv ev
          have wr : ∀ (h2 : bg_G), (∀ k, k ≠ 3 → h2 k = h' k) → (∀ (i : Nat) (x : Int), (pre ++ [v])[i]? = some x → bg_up (bg_up h2 3 2 (((p + q : Nat) : Int) + 1)) 5 (k : Int) v 5 i = x) := by
            intro h2 g1 i x hx
            rw [bg_up_at]
            by_cases e : i = k
            · subst e
              rw [if_pos rfl]
              rw [List.getElem?_append_right (by rw [hp.1]; omega), hp.1, Nat.sub_self] at hx
              simpa using hx
            · rw [if_neg (by omega), bg_up_ne (by omega), g1 5 (by omega)]
              by_cases e2 : i < k
              · rw [List.getElem?_append_left (by rw [hp.1]; exact e2)] at hx
                exact f4 i x hx
              · rw [List.getElem?_eq_none (by simp [hp.1]; omega)] at hx
                exact absurd hx (by simp)
          by_cases c4 : c = 44 ∨ c = 59
          · have n4 := good c4
            by_cases c5 : c = 59
            · have pe := pfx_end hp (by omega) (by rw [n4, eT, c5])
              rw [n4, ← hv] at pe
              iterate 2 (refine hX _ ?_; conv => whnf)
              refine hX _ ?_; conv => whnf
              refine ⟨fun q5 => ?_, fun q5 => ?_⟩
              · exfalso
                (try simp (disch := omega) only [bg_w_id, Int.toNat_natCast, rw_land, sh_land, not_true_eq_false, kc0, kc1, kc2, kc3, kc4, kc5, kc6, kc7, kc8, kc9, kc10, kc11, kc12, kc13, kc14, kc15, kc16, kc17, kc18, kc19, kc20, kc21, kc22, kc23, kc24, kc25, kc26, kc27, kc28, kc29, kc30, kc31, kc32, kc33] at q5) <;> (omega)
              · try simp (disch := omega) only [bg_w_id, Int.toNat_natCast, rw_land, sh_land, not_true_eq_false, kc0, kc1, kc2, kc3, kc4, kc5, kc6, kc7, kc8, kc9, kc10, kc11, kc12, kc13, kc14, kc15, kc16, kc17, kc18, kc19, kc20, kc21, kc22, kc23, kc24, kc25, kc26, kc27, kc28, kc29, kc30, kc31, kc32, kc33] at q5
                refine hX _ ?_; conv => whnf
                refine hX _ ?_; conv => whnf
                try simp (disch := omega) only [bg_w_id, Int.toNat_natCast, rw_land, sh_land, not_true_eq_false]
                refine s_readNumber (d + 0) n p L T h' ht' (by omega) f3 _ (fun h2 g1 g2 g3 => ?_)
                rw [← hq] at g3
                rw [ev]
                conv => whnf
                iterate 2 (refine hX _ ?_; conv => whnf)
                refine hX _ ?_; conv => whnf
                try simp (disch := omega) only [bg_w_id, Int.toNat_natCast, rw_land, sh_land, not_true_eq_false]
                refine s_nextByte (d + 1) n (p + q) L T h2 ⟨by rw [g2 3 (by omega)]; exact ht'.1, t2, fun i hi => by rw [g1 4 (by omega)]; exact ht'.2.2 i hi⟩ (by omega) g3 _ (fun _ => ?_) (fun e => absurd cL e)
                rw [← hc]
                conv => whnf
                iterate 2 (refine hX _ ?_; conv => whnf)
                refine hX _ ?_; conv => whnf
                refine ⟨fun q19 => ?_, fun q19 => ?_⟩
                · exfalso
                  (try simp (disch := omega) only [bg_w_id, Int.toNat_natCast, rw_land, sh_land, not_true_eq_false, kc0, kc1, kc2, kc3, kc4, kc5, kc6, kc7, kc8, kc9, kc10, kc11, kc12, kc13, kc14, kc15, kc16, kc17, kc18, kc19, kc20, kc21, kc22, kc23, kc24, kc25, kc26, kc27, kc28, kc29, kc30, kc31, kc32, kc33] at q19) <;> (omega)
                · try simp (disch := omega) only [bg_w_id, Int.toNat_natCast, rw_land, sh_land, not_true_eq_false, kc0, kc1, kc2, kc3, kc4, kc5, kc6, kc7, kc8, kc9, kc10, kc11, kc12, kc13, kc14, kc15, kc16, kc17, kc18, kc19, kc20, kc21, kc22, kc23, kc24, kc25, kc26, kc27, kc28, kc29, kc30, kc31, kc32, kc33] at q19
                  iterate 2 (refine hX _ ?_; conv => whnf)
                  refine hX _ ?_; conv => whnf
                  refine ⟨fun q25 => ?_, fun q25 => ?_⟩
                  · exfalso
                    (try simp (disch := omega) only [bg_w_id, Int.toNat_natCast, rw_land, sh_land, not_true_eq_false, kc0, kc1, kc2, kc3, kc4, kc5, kc6, kc7, kc8, kc9, kc10, kc11, kc12, kc13, kc14, kc15, kc16, kc17, kc18, kc19, kc20, kc21, kc22, kc23, kc24, kc25, kc26, kc27, kc28, kc29, kc30, kc31, kc32, kc33] at q25) <;> (omega)
                  · try simp (disch := omega) only [bg_w_id, Int.toNat_natCast, rw_land, sh_land, not_true_eq_false, kc0, kc1, kc2, kc3, kc4, kc5, kc6, kc7, kc8, kc9, kc10, kc11, kc12, kc13, kc14, kc15, kc16, kc17, kc18, kc19, kc20, kc21, kc22, kc23, kc24, kc25, kc26, kc27, kc28, kc29, kc30, kc31, kc32, kc33] at q25
                    iterate 2 (refine hX _ ?_; conv => whnf)
                    refine hX _ ?_; conv => whnf
                    refine ⟨fun q31 => ?_, fun q31 => ?_⟩
                    · try simp (disch := omega) only [bg_w_id, Int.toNat_natCast, rw_land, sh_land, not_true_eq_false, kc0, kc1, kc2, kc3, kc4, kc5, kc6, kc7, kc8, kc9, kc10, kc11, kc12, kc13, kc14, kc15, kc16, kc17, kc18, kc19, kc20, kc21, kc22, kc23, kc24, kc25, kc26, kc27, kc28, kc29, kc30, kc31, kc32, kc33] at q31
                      iterate 4 (refine hX _ ?_; conv => whnf)
                      refine hX _ ?_; conv => whnf
                      try (simp (disch := omega) only [bg_w_id, Int.toNat_natCast, rw_land, sh_land, not_true_eq_false]; try conv => whnf)
                      refine ⟨by first | omega | (simp (disch := omega) only [bg_w_id, Int.toNat_natCast, rw_land, sh_land, not_true_eq_false]; omega), ?_⟩
                      iterate 2 (refine hX _ ?_; conv => whnf)
                      refine hX _ ?_; conv => whnf
                      refine ⟨fun q46 => ?_, fun q46 => ?_⟩
                      · exfalso
                        (try simp (disch := omega) only [bg_w_id, Int.toNat_natCast, rw_land, sh_land, not_true_eq_false, kc0, kc1, kc2, kc3, kc4, kc5, kc6, kc7, kc8, kc9, kc10, kc11, kc12, kc13, kc14, kc15, kc16, kc17, kc18, kc19, kc20, kc21, kc22, kc23, kc24, kc25, kc26, kc27, kc28, kc29, kc30, kc31, kc32, kc33] at q46) <;> (omega)
                      · try simp (disch := omega) only [bg_w_id, Int.toNat_natCast, rw_land, sh_land, not_true_eq_false, kc0, kc1, kc2, kc3, kc4, kc5, kc6, kc7, kc8, kc9, kc10, kc11, kc12, kc13, kc14, kc15, kc16, kc17, kc18, kc19, kc20, kc21, kc22, kc23, kc24, kc25, kc26, kc27, kc28, kc29, kc30, kc31, kc32, kc33] at q46
                        iterate 3 (refine hX _ ?_; conv => whnf)
                        refine hX _ ?_; conv => whnf
                        refine hR1 (k + 1) _ _ _ (by omega) (by omega) pe (fun k' k1 k2 => ?_) (fun j hj => ?_) ?_ (wr h2 g1)
                        · rw [bg_up_ne k2, bg_up_ne k1, g1 k' k1]; exact f1 k' k1 k2
                        · rw [bg_up_ne (by omega), bg_up_nj hj, g2 j hj]; exact f2 j hj
                        · rw [bg_up_ne (by omega), bg_up_self]
                          omega
                    · exfalso
                      (try simp (disch := omega) only [bg_w_id, Int.toNat_natCast, rw_land, sh_land, not_true_eq_false, kc0, kc1, kc2, kc3, kc4, kc5, kc6, kc7, kc8, kc9, kc10, kc11, kc12, kc13, kc14, kc15, kc16, kc17, kc18, kc19, kc20, kc21, kc22, kc23, kc24, kc25, kc26, kc27, kc28, kc29, kc30, kc31, kc32, kc33] at q31) <;> (omega)
            · have c6 : c = 44 := by omega
              have ps := pfx_s hp (by omega) (by rw [n4, eT, c6])
              rw [n4, ← hv] at ps
              have hno1 : nums (byt T L) (k + 1) a = none := hp.2.2 1 (by omega) (by
                rw [nums_s, if_neg]
                intro ⟨_, y⟩
                rw [n4, eT, if_pos rfl] at y
                exact c5 y)
              iterate 2 (refine hX _ ?_; conv => whnf)
              refine hX _ ?_; conv => whnf
              refine ⟨fun q5 => ?_, fun q5 => ?_⟩
              · exfalso
                (try simp (disch := omega) only [bg_w_id, Int.toNat_natCast, rw_land, sh_land, not_true_eq_false, kc0, kc1, kc2, kc3, kc4, kc5, kc6, kc7, kc8, kc9, kc10, kc11, kc12, kc13, kc14, kc15, kc16, kc17, kc18, kc19, kc20, kc21, kc22, kc23, kc24, kc25, kc26, kc27, kc28, kc29, kc30, kc31, kc32, kc33] at q5) <;> (omega)
              · try simp (disch := omega) only [bg_w_id, Int.toNat_natCast, rw_land, sh_land, not_true_eq_false, kc0, kc1, kc2, kc3, kc4, kc5, kc6, kc7, kc8, kc9, kc10, kc11, kc12, kc13, kc14, kc15, kc16, kc17, kc18, kc19, kc20, kc21, kc22, kc23, kc24, kc25, kc26, kc27, kc28, kc29, kc30, kc31, kc32, kc33] at q5
                refine hX _ ?_; conv => whnf
                refine hX _ ?_; conv => whnf
                try simp (disch := omega) only [bg_w_id, Int.toNat_natCast, rw_land, sh_land, not_true_eq_false]
                refine s_readNumber (d + 0) n p L T h' ht' (by omega) f3 _ (fun h2 g1 g2 g3 => ?_)
                rw [← hq] at g3
                rw [ev]
                conv => whnf
                iterate 2 (refine hX _ ?_; conv => whnf)
                refine hX _ ?_; conv => whnf
                try simp (disch := omega) only [bg_w_id, Int.toNat_natCast, rw_land, sh_land, not_true_eq_false]
                refine s_nextByte (d + 1) n (p + q) L T h2 ⟨by rw [g2 3 (by omega)]; exact ht'.1, t2, fun i hi => by rw [g1 4 (by omega)]; exact ht'.2.2 i hi⟩ (by omega) g3 _ (fun _ => ?_) (fun e => absurd cL e)
                rw [← hc]
                conv => whnf
                iterate 2 (refine hX _ ?_; conv => whnf)
                refine hX _ ?_; conv => whnf
                refine ⟨fun q19 => ?_, fun q19 => ?_⟩
                · exfalso
                  (try simp (disch := omega) only [bg_w_id, Int.toNat_natCast, rw_land, sh_land, not_true_eq_false, kc0, kc1, kc2, kc3, kc4, kc5, kc6, kc7, kc8, kc9, kc10, kc11, kc12, kc13, kc14, kc15, kc16, kc17, kc18, kc19, kc20, kc21, kc22, kc23, kc24, kc25, kc26, kc27, kc28, kc29, kc30, kc31, kc32, kc33] at q19) <;> (omega)
                · try simp (disch := omega) only [bg_w_id, Int.toNat_natCast, rw_land, sh_land, not_true_eq_false, kc0, kc1, kc2, kc3, kc4, kc5, kc6, kc7, kc8, kc9, kc10, kc11, kc12, kc13, kc14, kc15, kc16, kc17, kc18, kc19, kc20, kc21, kc22, kc23, kc24, kc25, kc26, kc27, kc28, kc29, kc30, kc31, kc32, kc33] at q19
                  iterate 2 (refine hX _ ?_; conv => whnf)
                  refine hX _ ?_; conv => whnf
                  refine ⟨fun q25 => ?_, fun q25 => ?_⟩
                  · try simp (disch := omega) only [bg_w_id, Int.toNat_natCast, rw_land, sh_land, not_true_eq_false, kc0, kc1, kc2, kc3, kc4, kc5, kc6, kc7, kc8, kc9, kc10, kc11, kc12, kc13, kc14, kc15, kc16, kc17, kc18, kc19, kc20, kc21, kc22, kc23, kc24, kc25, kc26, kc27, kc28, kc29, kc30, kc31, kc32, kc33] at q25
                    iterate 4 (refine hX _ ?_; conv => whnf)
                    refine hX _ ?_; conv => whnf
                    try (simp (disch := omega) only [bg_w_id, Int.toNat_natCast, rw_land, sh_land, not_true_eq_false]; try conv => whnf)
                    refine ⟨by first | omega | (simp (disch := omega) only [bg_w_id, Int.toNat_natCast, rw_land, sh_land, not_true_eq_false]; omega), ?_⟩
                    iterate 2 (refine hX _ ?_; conv => whnf)
                    refine hX _ ?_; conv => whnf
                    refine ⟨fun q46 => ?_, fun q46 => ?_⟩
                    · try simp (disch := omega) only [bg_w_id, Int.toNat_natCast, rw_land, sh_land, not_true_eq_false, kc0, kc1, kc2, kc3, kc4, kc5, kc6, kc7, kc8, kc9, kc10, kc11, kc12, kc13, kc14, kc15, kc16, kc17, kc18, kc19, kc20, kc21, kc22, kc23, kc24, kc25, kc26, kc27, kc28, kc29, kc30, kc31, kc32, kc33] at q46
                      iterate 2 (refine hX _ ?_; conv => whnf)
                      refine ih _ _ _ _ _ ps (fun s s1 s2 => ?_) (by omega) (fun k' k1 k2 => ?_) (fun j hj => ?_) ?_ (wr h2 g1)
                      · by_cases e : s = k + 1
                        · subst e; exact hno1
                        · exact hno s s1 (by omega)
                      · rw [bg_up_ne k2, bg_up_ne k1, g1 k' k1]; exact f1 k' k1 k2
                      · rw [bg_up_ne (by omega), bg_up_nj hj, g2 j hj]; exact f2 j hj
                      · rw [bg_up_ne (by omega), bg_up_self]
                        omega
                    · exfalso
                      (try simp (disch := omega) only [bg_w_id, Int.toNat_natCast, rw_land, sh_land, not_true_eq_false, kc0, kc1, kc2, kc3, kc4, kc5, kc6, kc7, kc8, kc9, kc10, kc11, kc12, kc13, kc14, kc15, kc16, kc17, kc18, kc19, kc20, kc21, kc22, kc23, kc24, kc25, kc26, kc27, kc28, kc29, kc30, kc31, kc32, kc33] at q46) <;> (omega)
                  · exfalso
                    (try simp (disch := omega) only [bg_w_id, Int.toNat_natCast, rw_land, sh_land, not_true_eq_false, kc0, kc1, kc2, kc3, kc4, kc5, kc6, kc7, kc8, kc9, kc10, kc11, kc12, kc13, kc14, kc15, kc16, kc17, kc18, kc19, kc20, kc21, kc22, kc23, kc24, kc25, kc26, kc27, kc28, kc29, kc30, kc31, kc32, kc33] at q25) <;> (omega)
          · have hno' := bad c4
            iterate 2 (refine hX _ ?_; conv => whnf)
            refine hX _ ?_; conv => whnf
            refine ⟨fun q5 => ?_, fun q5 => ?_⟩
            · exfalso
              (try simp (disch := omega) only [bg_w_id, Int.toNat_natCast, rw_land, sh_land, not_true_eq_false, kc0, kc1, kc2, kc3, kc4, kc5, kc6, kc7, kc8, kc9, kc10, kc11, kc12, kc13, kc14, kc15, kc16, kc17, kc18, kc19, kc20, kc21, kc22, kc23, kc24, kc25, kc26, kc27, kc28, kc29, kc30, kc31, kc32, kc33] at q5) <;> (omega)
            · try simp (disch := omega) only [bg_w_id, Int.toNat_natCast, rw_land, sh_land, not_true_eq_false, kc0, kc1, kc2, kc3, kc4, kc5, kc6, kc7, kc8, kc9, kc10, kc11, kc12, kc13, kc14, kc15, kc16, kc17, kc18, kc19, kc20, kc21, kc22, kc23, kc24, kc25, kc26, kc27, kc28, kc29, kc30, kc31, kc32, kc33] at q5
              refine hX _ ?_; conv => whnf
              refine hX _ ?_; conv => whnf
              try simp (disch := omega) only [bg_w_id, Int.toNat_natCast, rw_land, sh_land, not_true_eq_false]
              refine s_readNumber (d + 0) n p L T h' ht' (by omega) f3 _ (fun h2 g1 g2 g3 => ?_)
              rw [← hq] at g3
              rw [ev]
              conv => whnf
              iterate 2 (refine hX _ ?_; conv => whnf)
              refine hX _ ?_; conv => whnf
              try simp (disch := omega) only [bg_w_id, Int.toNat_natCast, rw_land, sh_land, not_true_eq_false]
              refine s_nextByte (d + 1) n (p + q) L T h2 ⟨by rw [g2 3 (by omega)]; exact ht'.1, t2, fun i hi => by rw [g1 4 (by omega)]; exact ht'.2.2 i hi⟩ (by omega) g3 _ (fun _ => ?_) (fun e => absurd cL e)
              rw [← hc]
              conv => whnf
              iterate 2 (refine hX _ ?_; conv => whnf)
              refine hX _ ?_; conv => whnf
              refine ⟨fun q19 => ?_, fun q19 => ?_⟩
              · exfalso
                (try simp (disch := omega) only [bg_w_id, Int.toNat_natCast, rw_land, sh_land, not_true_eq_false, kc0, kc1, kc2, kc3, kc4, kc5, kc6, kc7, kc8, kc9, kc10, kc11, kc12, kc13, kc14, kc15, kc16, kc17, kc18, kc19, kc20, kc21, kc22, kc23, kc24, kc25, kc26, kc27, kc28, kc29, kc30, kc31, kc32, kc33] at q19) <;> (omega)
              · try simp (disch := omega) only [bg_w_id, Int.toNat_natCast, rw_land, sh_land, not_true_eq_false, kc0, kc1, kc2, kc3, kc4, kc5, kc6, kc7, kc8, kc9, kc10, kc11, kc12, kc13, kc14, kc15, kc16, kc17, kc18, kc19, kc20, kc21, kc22, kc23, kc24, kc25, kc26, kc27, kc28, kc29, kc30, kc31, kc32, kc33] at q19
                iterate 2 (refine hX _ ?_; conv => whnf)
                refine hX _ ?_; conv => whnf
                refine ⟨fun q25 => ?_, fun q25 => ?_⟩
                · exfalso
                  (try simp (disch := omega) only [bg_w_id, Int.toNat_natCast, rw_land, sh_land, not_true_eq_false, kc0, kc1, kc2, kc3, kc4, kc5, kc6, kc7, kc8, kc9, kc10, kc11, kc12, kc13, kc14, kc15, kc16, kc17, kc18, kc19, kc20, kc21, kc22, kc23, kc24, kc25, kc26, kc27, kc28, kc29, kc30, kc31, kc32, kc33] at q25) <;> (omega)
                · try simp (disch := omega) only [bg_w_id, Int.toNat_natCast, rw_land, sh_land, not_true_eq_false, kc0, kc1, kc2, kc3, kc4, kc5, kc6, kc7, kc8, kc9, kc10, kc11, kc12, kc13, kc14, kc15, kc16, kc17, kc18, kc19, kc20, kc21, kc22, kc23, kc24, kc25, kc26, kc27, kc28, kc29, kc30, kc31, kc32, kc33] at q25
                  iterate 2 (refine hX _ ?_; conv => whnf)
                  refine hX _ ?_; conv => whnf
                  refine ⟨fun q31 => ?_, fun q31 => ?_⟩
                  · exfalso
                    (try simp (disch := omega) only [bg_w_id, Int.toNat_natCast, rw_land, sh_land, not_true_eq_false, kc0, kc1, kc2, kc3, kc4, kc5, kc6, kc7, kc8, kc9, kc10, kc11, kc12, kc13, kc14, kc15, kc16, kc17, kc18, kc19, kc20, kc21, kc22, kc23, kc24, kc25, kc26, kc27, kc28, kc29, kc30, kc31, kc32, kc33] at q31) <;> (omega)
                  · try simp (disch := omega) only [bg_w_id, Int.toNat_natCast, rw_land, sh_land, not_true_eq_false, kc0, kc1, kc2, kc3, kc4, kc5, kc6, kc7, kc8, kc9, kc10, kc11, kc12, kc13, kc14, kc15, kc16, kc17, kc18, kc19, kc20, kc21, kc22, kc23, kc24, kc25, kc26, kc27, kc28, kc29, kc30, kc31, kc32, kc33] at q31
                    refine hX _ ?_; conv => whnf
                    refine hX _ ?_; conv => whnf
                    refine hR0 hno' _ (fun k k1 k2 => ?_) (fun j hj => ?_)
                    · rw [bg_up_ne k1, g1 k k1]; exact f1 k k1 k2
                    · rw [bg_up_nj hj, g2 j hj]; exact f2 j hj
        · have eT : byt T L (p + q) = 0 := by unfold byt; rw [if_neg cL]
          have hno' : ∀ s, 1 ≤ s → s ≤ 7 → nums (byt T L) s a = none := by
            refine allno (Or.inr ?_)
            rw [show dgs (byt T L) 4 p = q by rw [hq]; exact dgs_34 (by rw [← hq, eT]; omega), eT]
            omega
          have ev : (if dgs (byt T L) 3 p = 0 then (-1 : Int) else dval (byt T L) (dgs (byt T L) 3 p) p 0) = dval (byt T L) q p 0 := by rw [← hq, if_neg c0]
          rw [← hq] at rv
          obtain ⟨v, hv⟩ : ∃ v : Int, v = dval (byt T L) q p 0 := ⟨_, rfl⟩
          rw [← hv] at rv ev
          iterate 2 (refine hX _ ?_; conv => whnf)
          refine hX _ ?_; conv => whnf
          refine ⟨fun q5 => ?_, fun q5 => ?_⟩
          · exfalso
            (try simp (disch := omega) only [bg_w_id, Int.toNat_natCast, rw_land, sh_land, not_true_eq_false, kc0, kc1, kc2, kc3, kc4, kc5, kc6, kc7, kc8, kc9, kc10, kc11, kc12, kc13, kc14, kc15, kc16, kc17, kc18, kc19, kc20, kc21, kc22, kc23, kc24, kc25, kc26, kc27, kc28, kc29, kc30, kc31, kc32, kc33] at q5) <;> (omega)
          · try simp (disch := omega) only [bg_w_id, Int.toNat_natCast, rw_land, sh_land, not_true_eq_false, kc0, kc1, kc2, kc3, kc4, kc5, kc6, kc7, kc8, kc9, kc10, kc11, kc12, kc13, kc14, kc15, kc16, kc17, kc18, kc19, kc20, kc21, kc22, kc23, kc24, kc25, kc26, kc27, kc28, kc29, kc30, kc31, kc32, kc33] at q5
            refine hX _ ?_; conv => whnf
            refine hX _ ?_; conv => whnf
            try simp (disch := omega) only [bg_w_id, Int.toNat_natCast, rw_land, sh_land, not_true_eq_false]
            refine s_readNumber (d + 0) n p L T h' ht' (by omega) f3 _ (fun h2 g1 g2 g3 => ?_)
            rw [← hq] at g3
            rw [ev]
            conv => whnf
            iterate 2 (refine hX _ ?_; conv => whnf)
            refine hX _ ?_; conv => whnf
            try simp (disch := omega) only [bg_w_id, Int.toNat_natCast, rw_land, sh_land, not_true_eq_false]
            refine s_nextByte (d + 1) n (p + q) L T h2 ⟨by rw [g2 3 (by omega)]; exact ht'.1, t2, fun i hi => by rw [g1 4 (by omega)]; exact ht'.2.2 i hi⟩ (by omega) g3 _ (fun e => absurd e cL) (fun _ => ?_)
            conv => whnf
            iterate 2 (refine hX _ ?_; conv => whnf)
            refine hX _ ?_; conv => whnf
            refine ⟨fun q19 => ?_, fun q19 => ?_⟩
            · exfalso
              (try simp (disch := omega) only [bg_w_id, Int.toNat_natCast, rw_land, sh_land, not_true_eq_false, kc0, kc1, kc2, kc3, kc4, kc5, kc6, kc7, kc8, kc9, kc10, kc11, kc12, kc13, kc14, kc15, kc16, kc17, kc18, kc19, kc20, kc21, kc22, kc23, kc24, kc25, kc26, kc27, kc28, kc29, kc30, kc31, kc32, kc33] at q19) <;> (omega)
            · try simp (disch := omega) only [bg_w_id, Int.toNat_natCast, rw_land, sh_land, not_true_eq_false, kc0, kc1, kc2, kc3, kc4, kc5, kc6, kc7, kc8, kc9, kc10, kc11, kc12, kc13, kc14, kc15, kc16, kc17, kc18, kc19, kc20, kc21, kc22, kc23, kc24, kc25, kc26, kc27, kc28, kc29, kc30, kc31, kc32, kc33] at q19
              iterate 2 (refine hX _ ?_; conv => whnf)
              refine hX _ ?_; conv => whnf
              refine ⟨fun q25 => ?_, fun q25 => ?_⟩
              · exfalso
                (try simp (disch := omega) only [bg_w_id, Int.toNat_natCast, rw_land, sh_land, not_true_eq_false, kc0, kc1, kc2, kc3, kc4, kc5, kc6, kc7, kc8, kc9, kc10, kc11, kc12, kc13, kc14, kc15, kc16, kc17, kc18, kc19, kc20, kc21, kc22, kc23, kc24, kc25, kc26, kc27, kc28, kc29, kc30, kc31, kc32, kc33] at q25) <;> (omega)
              · try simp (disch := omega) only [bg_w_id, Int.toNat_natCast, rw_land, sh_land, not_true_eq_false, kc0, kc1, kc2, kc3, kc4, kc5, kc6, kc7, kc8, kc9, kc10, kc11, kc12, kc13, kc14, kc15, kc16, kc17, kc18, kc19, kc20, kc21, kc22, kc23, kc24, kc25, kc26, kc27, kc28, kc29, kc30, kc31, kc32, kc33] at q25
                iterate 2 (refine hX _ ?_; conv => whnf)
                refine hX _ ?_; conv => whnf
                refine ⟨fun q31 => ?_, fun q31 => ?_⟩
                · exfalso
                  (try simp (disch := omega) only [bg_w_id, Int.toNat_natCast, rw_land, sh_land, not_true_eq_false, kc0, kc1, kc2, kc3, kc4, kc5, kc6, kc7, kc8, kc9, kc10, kc11, kc12, kc13, kc14, kc15, kc16, kc17, kc18, kc19, kc20, kc21, kc22, kc23, kc24, kc25, kc26, kc27, kc28, kc29, kc30, kc31, kc32, kc33] at q31) <;> (omega)
                · try simp (disch := omega) only [bg_w_id, Int.toNat_natCast, rw_land, sh_land, not_true_eq_false, kc0, kc1, kc2, kc3, kc4, kc5, kc6, kc7, kc8, kc9, kc10, kc11, kc12, kc13, kc14, kc15, kc16, kc17, kc18, kc19, kc20, kc21, kc22, kc23, kc24, kc25, kc26, kc27, kc28, kc29, kc30, kc31, kc32, kc33] at q31
                  refine hX _ ?_; conv => whnf
                  refine hX _ ?_; conv => whnf
                  refine hR0 hno' _ (fun k k1 k2 => ?_) (fun j hj => ?_)
                  · rw [g1 k k1]; exact f1 k k1 k2
                  · rw [g2 j hj]; exact f2 j hj
  iterate 2 (refine hX _ ?_; conv => whnf)
  exact l1 0 (by omega) a [] h _ _ (pfx_0 _ _) (fun s s1 s2 => absurd s2 (by omega)) (by omega) (fun _ _ _ => rfl) (fun _ _ => rfl) h2 (fun i x hx => absurd hx (by simp))
