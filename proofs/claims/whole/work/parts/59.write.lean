/-! write, both sides -/
theorem and255 (X : Int) : bg_and X 255 = X % 256 := by
  have e : (BitVec.ofInt 32 X &&& BitVec.ofInt 32 255).toNat = (X % 4294967296).toNat % 256 := by
    rw [BitVec.toNat_and, BitVec.toNat_ofInt, show (BitVec.ofInt 32 255).toNat = 2 ^ 8 - 1 from rfl, Nat.and_two_pow_sub_one_eq_mod]
    rfl
  have := bv_in (b := BitVec.ofInt 32 X &&& BitVec.ofInt 32 255) e (by omega)
  show (BitVec.ofInt 32 X &&& BitVec.ofInt 32 255).toInt = _
  rw [this]
  omega
theorem And255 (X : Int) : bg_And X 255 = X % 256 := by
  have e : (BitVec.ofInt 64 X &&& BitVec.ofInt 64 255).toNat = (X % 18446744073709551616).toNat % 256 := by
    rw [BitVec.toNat_and, BitVec.toNat_ofInt, show (BitVec.ofInt 64 255).toNat = 2 ^ 8 - 1 from rfl, Nat.and_two_pow_sub_one_eq_mod]
    rfl
  show (BitVec.ofInt 64 X &&& BitVec.ofInt 64 255).toInt = _
  rw [BitVec.toInt_eq_toNat_of_lt (by omega), e]
  omega
theorem sh64 : ∀ k : Nat, k < 8 → (((Int32.ofInt (8 * (k : Int))).toInt64 &&& 63).toBitVec.smod 64).toNat = 8 * k ∧ (((Int32.ofInt (8 * (k : Int))).toInt64.toUInt64 &&& Int64.toUInt64 63).toBitVec % 64).toNat = 8 * k := by decide +kernel
theorem Shr_k (v : Int) (k : Nat) (hk : k < 8) : bg_Shr v (8 * (k : Int)) = (BitVec.ofInt 64 v).toInt / 2 ^ (8 * k) := by
  show ((BitVec.ofInt 64 v).sshiftRight' (((Int32.ofInt (8 * (k : Int))).toInt64 &&& 63).toBitVec.smod 64)).toInt = _
  rw [BitVec.sshiftRight', (sh64 k hk).1, BitVec.toInt_sshiftRight, Int.shiftRight_eq_div_pow]
  rfl
theorem Ushr_k (v : Int) (k : Nat) (hk : k < 8) : bg_Ushr v (8 * (k : Int)) % 256 = ((BitVec.ofInt 64 v).toNat / 2 ^ (8 * k) : Nat) % 256 := by
  have e : ((BitVec.ofInt 64 v) >>> (((Int32.ofInt (8 * (k : Int))).toInt64.toUInt64 &&& Int64.toUInt64 63).toBitVec % 64)).toNat = (BitVec.ofInt 64 v).toNat / 2 ^ (8 * k) := by
    rw [BitVec.ushiftRight_eq', BitVec.toNat_ushiftRight, (sh64 k hk).2, Nat.shiftRight_eq_div_pow]
  show ((BitVec.ofInt 64 v) >>> (((Int32.ofInt (8 * (k : Int))).toInt64.toUInt64 &&& Int64.toUInt64 63).toBitVec % 64)).toInt % 256 = _
  rw [BitVec.toInt_eq_toNat_bmod, e, Int.bmod_def]
  split <;> omega
theorem byte_eq (v : Int) (k : Nat) (hk : k < 8) : bg_and (bg_Ushr v (8 * (k : Int))) 255 = bg_And (bg_Shr v (8 * (k : Int))) 255 := by
  rw [and255, And255, Shr_k v k hk, Ushr_k v k hk, BitVec.toInt_eq_toNat_cond]
  have hl := (BitVec.ofInt 64 v).isLt
  generalize (BitVec.ofInt 64 v).toNat = N at *
  match k, hk with
  | 0, _ => split <;> omega
  | 1, _ => split <;> omega
  | 2, _ => split <;> omega
  | 3, _ => split <;> omega
  | 4, _ => split <;> omega
  | 5, _ => split <;> omega
  | 6, _ => split <;> omega
  | 7, _ => split <;> omega
  | k + 8, h => exact absurd h (by omega)
/-- byte k (from behind) of v -/
def byv (v : Int) (k : Nat) : Int := bg_And (bg_Shr v (8 * (k : Int))) 255
theorem byv_rg (v : Int) (k : Nat) : 0 ≤ byv v k ∧ byv v k ≤ 255 := by
  unfold byv
  rw [And255]
  omega
/-- the text with n bytes of v behind its first L -/
def txA (T : Int → Int) (L n : Nat) (v : Int) : Int → Int := fun j => if (L : Int) ≤ j ∧ j < L + n then byv v (n - 1 - (j - L).toNat) else T j
theorem s_append (d n m L : Nat) (v : Int) (hm : 1 ≤ m ∧ m ≤ 8) (h : bg_G) (h3 : h 3 3 = L) (hL : L + m ≤ 400) (Rt : bg_R) (hR : ∀ h' : bg_G, (∀ k, k ≠ 3 → k ≠ 4 → h' k = h k) → (∀ j, j ≠ 3 → h' 3 j = h 3 j) → h' 3 3 = ((L + m : Nat) : Int) → h' 4 = txA (h 4) L m v → Rt none (bg_SH n, h')) : bg_Ca bg_MS (d + 1) 63 [vR 3, vI m, vL v] (bg_SH n, h) Rt := by
  refine bg_ca (cd := cd_X6_append) rfl rfl ?_
  intro X hX
  have l1 : ∀ i, i ≤ m → ∀ h' : bg_G, (∀ k, k ≠ 3 → k ≠ 4 → h' k = h k) → (∀ j, j ≠ 3 → h' 3 j = h 3 j) → h' 3 3 = ((L + i : Nat) : Int) → h' 4 = (fun j : Int => if (L : Int) ≤ j ∧ j < L + i then byv v (m - 1 - (j - L).toNat) else h 4 j) → X (5, [oR 3, oI (m : Int), oL v, none, oI ((m : Int) - 1 - i)], [], (bg_SH n, h'), (0, 0)) := by
    refine lp_up m _ ?_ (fun i hi ih => ?_)
    · intro h' f1 f2 f3 f4
      refine hX _ ?_; conv => whnf
      refine hX _ ?_; conv => whnf
      refine ⟨fun q7 => ?_, fun q7 => ?_⟩
      · try simp (disch := omega) only [bg_w_id, Int.toNat_natCast, rw_land, sh_land, not_true_eq_false, kc0, kc1, kc2, kc3, kc4, kc5, kc6, kc7, kc8, kc9, kc10, kc11, kc12, kc13, kc14, kc15, kc16, kc17, kc18, kc19, kc20, kc21, kc22, kc23, kc24, kc25, kc26, kc27, kc28, kc29, kc30, kc31, kc32, kc33] at q7
        refine hX _ ?_; conv => whnf
        exact hR h' f1 f2 f3 f4
      · exfalso
        (try simp (disch := omega) only [bg_w_id, Int.toNat_natCast, rw_land, sh_land, not_true_eq_false, kc0, kc1, kc2, kc3, kc4, kc5, kc6, kc7, kc8, kc9, kc10, kc11, kc12, kc13, kc14, kc15, kc16, kc17, kc18, kc19, kc20, kc21, kc22, kc23, kc24, kc25, kc26, kc27, kc28, kc29, kc30, kc31, kc32, kc33] at q7) <;> (omega)
    · intro h' f1 f2 f3 f4
      have eb := byte_eq v (m - 1 - i) (by omega)
      rw [show ((m - 1 - i : Nat) : Int) = (m : Int) - 1 - i by omega] at eb
      refine hX _ ?_; conv => whnf
      refine hX _ ?_; conv => whnf
      refine ⟨fun q7 => ?_, fun q7 => ?_⟩
      · exfalso
        (try simp (disch := omega) only [bg_w_id, Int.toNat_natCast, rw_land, sh_land, not_true_eq_false, f3, kc0, kc1, kc2, kc3, kc4, kc5, kc6, kc7, kc8, kc9, kc10, kc11, kc12, kc13, kc14, kc15, kc16, kc17, kc18, kc19, kc20, kc21, kc22, kc23, kc24, kc25, kc26, kc27, kc28, kc29, kc30, kc31, kc32, kc33] at q7) <;> (omega)
      · try simp (disch := omega) only [bg_w_id, Int.toNat_natCast, rw_land, sh_land, not_true_eq_false, f3, kc0, kc1, kc2, kc3, kc4, kc5, kc6, kc7, kc8, kc9, kc10, kc11, kc12, kc13, kc14, kc15, kc16, kc17, kc18, kc19, kc20, kc21, kc22, kc23, kc24, kc25, kc26, kc27, kc28, kc29, kc30, kc31, kc32, kc33] at q7
        iterate 3 (refine hX _ ?_; conv => whnf)
        try simp only [kc0, kc1, kc2, kc3, kc4, kc5, kc6, kc7, kc8, kc9, kc10, kc11, kc12, kc13, kc14, kc15, kc16, kc17, kc18, kc19, kc20, kc21, kc22, kc23, kc24, kc25, kc26, kc27, kc28, kc29, kc30, kc31, kc32, kc33]
        refine hX _ ?_; conv => whnf
        refine ⟨fun q17 => ?_, fun q17 => ?_⟩
        · exfalso
          (try simp (disch := omega) only [bg_w_id, Int.toNat_natCast, rw_land, sh_land, not_true_eq_false, f3, kc0, kc1, kc2, kc3, kc4, kc5, kc6, kc7, kc8, kc9, kc10, kc11, kc12, kc13, kc14, kc15, kc16, kc17, kc18, kc19, kc20, kc21, kc22, kc23, kc24, kc25, kc26, kc27, kc28, kc29, kc30, kc31, kc32, kc33] at q17) <;> (omega)
        · try simp (disch := omega) only [bg_w_id, Int.toNat_natCast, rw_land, sh_land, not_true_eq_false, f3, kc0, kc1, kc2, kc3, kc4, kc5, kc6, kc7, kc8, kc9, kc10, kc11, kc12, kc13, kc14, kc15, kc16, kc17, kc18, kc19, kc20, kc21, kc22, kc23, kc24, kc25, kc26, kc27, kc28, kc29, kc30, kc31, kc32, kc33] at q17
          iterate 12 (refine hX _ ?_; conv => whnf)
          refine hX _ ?_; conv => whnf
          try (simp (disch := omega) only [bg_w_id, Int.toNat_natCast, rw_land, sh_land, not_true_eq_false, f3, kc0, kc1, kc2, kc3, kc4, kc5, kc6, kc7, kc8, kc9, kc10, kc11, kc12, kc13, kc14, kc15, kc16, kc17, kc18, kc19, kc20, kc21, kc22, kc23, kc24, kc25, kc26, kc27, kc28, kc29, kc30, kc31, kc32, kc33]; try conv => whnf)
          refine ⟨by first | omega | (simp (disch := omega) only [bg_w_id, Int.toNat_natCast, rw_land, sh_land, not_true_eq_false, f3, kc0, kc1, kc2, kc3, kc4, kc5, kc6, kc7, kc8, kc9, kc10, kc11, kc12, kc13, kc14, kc15, kc16, kc17, kc18, kc19, kc20, kc21, kc22, kc23, kc24, kc25, kc26, kc27, kc28, kc29, kc30, kc31, kc32, kc33]; omega), ?_⟩
          iterate 8 (refine hX _ ?_; conv => whnf)
          try simp only [kc0, kc1, kc2, kc3, kc4, kc5, kc6, kc7, kc8, kc9, kc10, kc11, kc12, kc13, kc14, kc15, kc16, kc17, kc18, kc19, kc20, kc21, kc22, kc23, kc24, kc25, kc26, kc27, kc28, kc29, kc30, kc31, kc32, kc33]
          rw [show (m : Int) - 1 - (i : Int) + -1 = (m : Int) - 1 - ((i + 1 : Nat) : Int) by omega]
          refine ih _ (fun k k1 k2 => ?_) (fun j hj => ?_) ?_ ?_
          · rw [bg_up_ne k1, bg_up_ne k2]; exact f1 k k1 k2
          · rw [bg_up_nj hj, bg_up_ne (by omega)]; exact f2 j hj
          · rw [bg_up_self]
            simp (disch := omega) only [bg_up_ne, f3]
            omega
          · rw [bg_up_ne (by omega)]
            funext j
            rw [bg_up_at, f4]
            by_cases c : j = ((L + i : Nat) : Int)
            · rw [if_pos (by first | exact c | (rw [f3]; exact c)), if_pos (by omega), eb]
              unfold byv
              rw [show ((m - 1 - (j - L).toNat : Nat) : Int) = (m : Int) - 1 - i by omega]
            · rw [if_neg (by first | exact c | (rw [f3]; exact c))]
              by_cases c2 : (L : Int) ≤ j ∧ j < L + i
              · show (if (L : Int) ≤ j ∧ j < L + i then _ else _) = _
                rw [if_pos c2, if_pos (by omega)]
              · show (if (L : Int) ≤ j ∧ j < L + i then _ else _) = _
                rw [if_neg c2, if_neg (by omega)]
  iterate 4 (refine hX _ ?_; conv => whnf)
  have := l1 0 (by omega) h (fun _ _ _ => rfl) (fun _ _ => rfl) (by rw [h3]; omega) (by funext j; rw [if_neg (by omega)])
  rw [show (m : Int) - 1 - ((0 : Nat) : Int) = (m : Int) - 1 by omega] at this
  exact this
theorem s_cwrite (d n L : Nat) (m v : Int) (hm : i32 m) (h : bg_G) (h3 : h 3 3 = L) (hL : L ≤ 400) (Rt : bg_R) (hR1 : (1 ≤ m ∧ m ≤ 8) → (L : Int) + m ≤ 400 → ∀ h' : bg_G, (∀ k, k ≠ 3 → k ≠ 4 → h' k = h k) → (∀ j, j ≠ 3 → h' 3 j = h 3 j) → h' 3 3 = (L : Int) + m → h' 4 = txA (h 4) L m.toNat v → Rt (some (.inl ((L : Int) + m))) (bg_SH n, h')) (hR2 : (1 ≤ m ∧ m ≤ 8) → ¬ (L : Int) + m ≤ 400 → Rt (some (.inl (-3))) (bg_SH n, h)) (hR0 : ¬ (1 ≤ m ∧ m ≤ 8) → Rt (some (.inl (-1))) (bg_SH n, h)) : bg_Ca bg_MS (d + 2) 78 [vR 2, vI m, vL v] (bg_SH n, h) Rt := by
  have room : ∀ (Rt : bg_R), (1 ≤ m ∧ m ≤ 8) → Rt (some (.inl (if (L : Int) + m ≤ 400 then 1 else 0))) (bg_SH n, h) → bg_Ca bg_MS (d + 1) 62 [vR 3, vI m] (bg_SH n, h) Rt := by
    intro Rt hm8 hR
    refine bg_ca (cd := cd_X6_hasRoomFor) rfl rfl ?_
    intro X hX
    iterate 5 (refine hX _ ?_; conv => whnf)
    try simp only [kc0, kc1, kc2, kc3, kc4, kc5, kc6, kc7, kc8, kc9, kc10, kc11, kc12, kc13, kc14, kc15, kc16, kc17, kc18, kc19, kc20, kc21, kc22, kc23, kc24, kc25, kc26, kc27, kc28, kc29, kc30, kc31, kc32, kc33]
    refine hX _ ?_; conv => whnf
    refine ⟨fun q9 => ?_, fun q9 => ?_⟩
    · try simp (disch := omega) only [bg_w_id, Int.toNat_natCast, rw_land, sh_land, not_true_eq_false, h3, kc0, kc1, kc2, kc3, kc4, kc5, kc6, kc7, kc8, kc9, kc10, kc11, kc12, kc13, kc14, kc15, kc16, kc17, kc18, kc19, kc20, kc21, kc22, kc23, kc24, kc25, kc26, kc27, kc28, kc29, kc30, kc31, kc32, kc33] at q9
      refine hX _ ?_; conv => whnf
      refine hX _ ?_; conv => whnf
      first | (rw [if_pos (by omega)] at hR; exact ⟨by omega, hR⟩) | (rw [if_neg (by omega)] at hR; exact ⟨by omega, hR⟩)
    · try simp (disch := omega) only [bg_w_id, Int.toNat_natCast, rw_land, sh_land, not_true_eq_false, h3, kc0, kc1, kc2, kc3, kc4, kc5, kc6, kc7, kc8, kc9, kc10, kc11, kc12, kc13, kc14, kc15, kc16, kc17, kc18, kc19, kc20, kc21, kc22, kc23, kc24, kc25, kc26, kc27, kc28, kc29, kc30, kc31, kc32, kc33] at q9
      iterate 2 (refine hX _ ?_; conv => whnf)
      refine hX _ ?_; conv => whnf
      first | (rw [if_pos (by omega)] at hR; exact ⟨by omega, hR⟩) | (rw [if_neg (by omega)] at hR; exact ⟨by omega, hR⟩)
  refine bg_ca (cd := cd_X8_write) rfl rfl ?_
  intro X hX
  by_cases c1 : 1 ≤ m ∧ m ≤ 8
  · by_cases c2 : (L : Int) + m ≤ 400
    · obtain ⟨q, rfl⟩ : ∃ q : Nat, m = q := ⟨m.toNat, by omega⟩
      have hR1 := hR1 c1 c2
      iterate 2 (refine hX _ ?_; conv => whnf)
      refine hX _ ?_; conv => whnf
      refine ⟨fun q2 => ?_, fun q2 => ?_⟩
      · exfalso
        (try simp (disch := omega) only [bg_w_id, Int.toNat_natCast, rw_land, sh_land, not_true_eq_false, kc0, kc1, kc2, kc3, kc4, kc5, kc6, kc7, kc8, kc9, kc10, kc11, kc12, kc13, kc14, kc15, kc16, kc17, kc18, kc19, kc20, kc21, kc22, kc23, kc24, kc25, kc26, kc27, kc28, kc29, kc30, kc31, kc32, kc33] at q2) <;> (omega)
      · try simp (disch := omega) only [bg_w_id, Int.toNat_natCast, rw_land, sh_land, not_true_eq_false, kc0, kc1, kc2, kc3, kc4, kc5, kc6, kc7, kc8, kc9, kc10, kc11, kc12, kc13, kc14, kc15, kc16, kc17, kc18, kc19, kc20, kc21, kc22, kc23, kc24, kc25, kc26, kc27, kc28, kc29, kc30, kc31, kc32, kc33] at q2
        iterate 2 (refine hX _ ?_; conv => whnf)
        refine hX _ ?_; conv => whnf
        refine ⟨fun q8 => ?_, fun q8 => ?_⟩
        · try simp (disch := omega) only [bg_w_id, Int.toNat_natCast, rw_land, sh_land, not_true_eq_false, kc0, kc1, kc2, kc3, kc4, kc5, kc6, kc7, kc8, kc9, kc10, kc11, kc12, kc13, kc14, kc15, kc16, kc17, kc18, kc19, kc20, kc21, kc22, kc23, kc24, kc25, kc26, kc27, kc28, kc29, kc30, kc31, kc32, kc33] at q8
          iterate 3 (refine hX _ ?_; conv => whnf)
          refine hX _ ?_; conv => whnf
          try simp (disch := omega) only [bg_w_id, Int.toNat_natCast, rw_land, sh_land, not_true_eq_false]
          refine room _ c1 ?_
          rw [if_pos c2]
          conv => whnf
          refine hX _ ?_; conv => whnf
          refine ⟨fun q21 => ?_, fun q21 => ?_⟩
          · try simp (disch := omega) only [bg_w_id, Int.toNat_natCast, rw_land, sh_land, not_true_eq_false, kc0, kc1, kc2, kc3, kc4, kc5, kc6, kc7, kc8, kc9, kc10, kc11, kc12, kc13, kc14, kc15, kc16, kc17, kc18, kc19, kc20, kc21, kc22, kc23, kc24, kc25, kc26, kc27, kc28, kc29, kc30, kc31, kc32, kc33] at q21
            iterate 4 (refine hX _ ?_; conv => whnf)
            refine hX _ ?_; conv => whnf
            try simp (disch := omega) only [bg_w_id, Int.toNat_natCast, rw_land, sh_land, not_true_eq_false]
            refine s_append d n q L v (by omega) h h3 (by omega) _ (fun h' f1 f2 f3 f4 => ?_)
            have hR1 := hR1 h' f1 f2 (by rw [f3]; omega) f4
            rw [show (L : Int) + (q : Int) = h' 3 3 by rw [f3]; omega] at hR1
            conv => whnf
            iterate 3 (refine hX _ ?_; conv => whnf)
            try simp only [kc0, kc1, kc2, kc3, kc4, kc5, kc6, kc7, kc8, kc9, kc10, kc11, kc12, kc13, kc14, kc15, kc16, kc17, kc18, kc19, kc20, kc21, kc22, kc23, kc24, kc25, kc26, kc27, kc28, kc29, kc30, kc31, kc32, kc33]
            refine hX _ ?_; conv => whnf
            exact hR1
          · exfalso
            (try simp (disch := omega) only [bg_w_id, Int.toNat_natCast, rw_land, sh_land, not_true_eq_false, kc0, kc1, kc2, kc3, kc4, kc5, kc6, kc7, kc8, kc9, kc10, kc11, kc12, kc13, kc14, kc15, kc16, kc17, kc18, kc19, kc20, kc21, kc22, kc23, kc24, kc25, kc26, kc27, kc28, kc29, kc30, kc31, kc32, kc33] at q21) <;> (omega)
        · exfalso
          (try simp (disch := omega) only [bg_w_id, Int.toNat_natCast, rw_land, sh_land, not_true_eq_false, kc0, kc1, kc2, kc3, kc4, kc5, kc6, kc7, kc8, kc9, kc10, kc11, kc12, kc13, kc14, kc15, kc16, kc17, kc18, kc19, kc20, kc21, kc22, kc23, kc24, kc25, kc26, kc27, kc28, kc29, kc30, kc31, kc32, kc33] at q8) <;> (omega)
    · iterate 2 (refine hX _ ?_; conv => whnf)
      refine hX _ ?_; conv => whnf
      refine ⟨fun q2 => ?_, fun q2 => ?_⟩
      · exfalso
        (try simp (disch := omega) only [bg_w_id, Int.toNat_natCast, rw_land, sh_land, not_true_eq_false, kc0, kc1, kc2, kc3, kc4, kc5, kc6, kc7, kc8, kc9, kc10, kc11, kc12, kc13, kc14, kc15, kc16, kc17, kc18, kc19, kc20, kc21, kc22, kc23, kc24, kc25, kc26, kc27, kc28, kc29, kc30, kc31, kc32, kc33] at q2) <;> (omega)
      · try simp (disch := omega) only [bg_w_id, Int.toNat_natCast, rw_land, sh_land, not_true_eq_false, kc0, kc1, kc2, kc3, kc4, kc5, kc6, kc7, kc8, kc9, kc10, kc11, kc12, kc13, kc14, kc15, kc16, kc17, kc18, kc19, kc20, kc21, kc22, kc23, kc24, kc25, kc26, kc27, kc28, kc29, kc30, kc31, kc32, kc33] at q2
        iterate 2 (refine hX _ ?_; conv => whnf)
        refine hX _ ?_; conv => whnf
        refine ⟨fun q8 => ?_, fun q8 => ?_⟩
        · try simp (disch := omega) only [bg_w_id, Int.toNat_natCast, rw_land, sh_land, not_true_eq_false, kc0, kc1, kc2, kc3, kc4, kc5, kc6, kc7, kc8, kc9, kc10, kc11, kc12, kc13, kc14, kc15, kc16, kc17, kc18, kc19, kc20, kc21, kc22, kc23, kc24, kc25, kc26, kc27, kc28, kc29, kc30, kc31, kc32, kc33] at q8
          iterate 3 (refine hX _ ?_; conv => whnf)
          refine hX _ ?_; conv => whnf
          try simp (disch := omega) only [bg_w_id, Int.toNat_natCast, rw_land, sh_land, not_true_eq_false]
          refine room _ c1 ?_
          rw [if_neg c2]
          conv => whnf
          refine hX _ ?_; conv => whnf
          refine ⟨fun q21 => ?_, fun q21 => ?_⟩
          · exfalso
            (try simp (disch := omega) only [bg_w_id, Int.toNat_natCast, rw_land, sh_land, not_true_eq_false, kc0, kc1, kc2, kc3, kc4, kc5, kc6, kc7, kc8, kc9, kc10, kc11, kc12, kc13, kc14, kc15, kc16, kc17, kc18, kc19, kc20, kc21, kc22, kc23, kc24, kc25, kc26, kc27, kc28, kc29, kc30, kc31, kc32, kc33] at q21) <;> (omega)
          · try simp (disch := omega) only [bg_w_id, Int.toNat_natCast, rw_land, sh_land, not_true_eq_false, kc0, kc1, kc2, kc3, kc4, kc5, kc6, kc7, kc8, kc9, kc10, kc11, kc12, kc13, kc14, kc15, kc16, kc17, kc18, kc19, kc20, kc21, kc22, kc23, kc24, kc25, kc26, kc27, kc28, kc29, kc30, kc31, kc32, kc33] at q21
            refine hX _ ?_; conv => whnf
            refine hX _ ?_; conv => whnf
            exact hR2 c1 c2
        · exfalso
          (try simp (disch := omega) only [bg_w_id, Int.toNat_natCast, rw_land, sh_land, not_true_eq_false, kc0, kc1, kc2, kc3, kc4, kc5, kc6, kc7, kc8, kc9, kc10, kc11, kc12, kc13, kc14, kc15, kc16, kc17, kc18, kc19, kc20, kc21, kc22, kc23, kc24, kc25, kc26, kc27, kc28, kc29, kc30, kc31, kc32, kc33] at q8) <;> (omega)
  · iterate 2 (refine hX _ ?_; conv => whnf)
    refine hX _ ?_; conv => whnf
    refine ⟨fun q2 => ?_, fun q2 => ?_⟩
    · try simp (disch := omega) only [bg_w_id, Int.toNat_natCast, rw_land, sh_land, not_true_eq_false, kc0, kc1, kc2, kc3, kc4, kc5, kc6, kc7, kc8, kc9, kc10, kc11, kc12, kc13, kc14, kc15, kc16, kc17, kc18, kc19, kc20, kc21, kc22, kc23, kc24, kc25, kc26, kc27, kc28, kc29, kc30, kc31, kc32, kc33] at q2
      refine hX _ ?_; conv => whnf
      refine hX _ ?_; conv => whnf
      exact hR0 c1
    · try simp (disch := omega) only [bg_w_id, Int.toNat_natCast, rw_land, sh_land, not_true_eq_false, kc0, kc1, kc2, kc3, kc4, kc5, kc6, kc7, kc8, kc9, kc10, kc11, kc12, kc13, kc14, kc15, kc16, kc17, kc18, kc19, kc20, kc21, kc22, kc23, kc24, kc25, kc26, kc27, kc28, kc29, kc30, kc31, kc32, kc33] at q2
      iterate 2 (refine hX _ ?_; conv => whnf)
      refine hX _ ?_; conv => whnf
      refine ⟨fun q8 => ?_, fun q8 => ?_⟩
      · try simp (disch := omega) only [bg_w_id, Int.toNat_natCast, rw_land, sh_land, not_true_eq_false, kc0, kc1, kc2, kc3, kc4, kc5, kc6, kc7, kc8, kc9, kc10, kc11, kc12, kc13, kc14, kc15, kc16, kc17, kc18, kc19, kc20, kc21, kc22, kc23, kc24, kc25, kc26, kc27, kc28, kc29, kc30, kc31, kc32, kc33] at q8
        exfalso; omega
      · try simp (disch := omega) only [bg_w_id, Int.toNat_natCast, rw_land, sh_land, not_true_eq_false, kc0, kc1, kc2, kc3, kc4, kc5, kc6, kc7, kc8, kc9, kc10, kc11, kc12, kc13, kc14, kc15, kc16, kc17, kc18, kc19, kc20, kc21, kc22, kc23, kc24, kc25, kc26, kc27, kc28, kc29, kc30, kc31, kc32, kc33] at q8
        refine hX _ ?_; conv => whnf
        refine hX _ ?_; conv => whnf
        exact hR0 c1
theorem s_mwrite (d n L : Nat) (m v : Int) (hm : i32 m) (h : bg_G) (h3 : h 115 0 = L) (hL : L ≤ 400) (Rt : bg_R) (hR1 : (1 ≤ m ∧ m ≤ 8) → (L : Int) + m ≤ 400 → ∀ h' : bg_G, (∀ k, k ≠ 115 → k ≠ 116 → h' k = h k) → (∀ j, j ≠ 0 → h' 115 j = h 115 j) → h' 115 0 = (L : Int) + m → h' 116 = txA (h 116) L m.toNat v → Rt (some (.inl ((L : Int) + m))) (bg_SH n, h')) (hR2 : (1 ≤ m ∧ m ≤ 8) → ¬ (L : Int) + m ≤ 400 → Rt (some (.inl (-3))) (bg_SH n, h)) (hR0 : ¬ (1 ≤ m ∧ m ≤ 8) → Rt (some (.inl (-1))) (bg_SH n, h)) : bg_Ca bg_MS (d + 2) 117 [vR 115, vI m, vL v] (bg_SH n, h) Rt := by
  refine bg_ca (cd := cd_X9_write) rfl rfl ?_
  intro X hX
  by_cases c1 : 1 ≤ m ∧ m ≤ 8
  · by_cases c2 : (L : Int) + m ≤ 400
    · obtain ⟨q, rfl⟩ : ∃ q : Nat, m = q := ⟨m.toNat, by omega⟩
      have hR1 := hR1 c1 c2
      have l1 : ∀ i, i ≤ q → ∀ h' : bg_G, (∀ k, k ≠ 115 → k ≠ 116 → h' k = h k) → (∀ j, j ≠ 0 → h' 115 j = h 115 j) → h' 115 0 = ((L + i : Nat) : Int) → h' 116 = (fun j : Int => if (L : Int) ≤ j ∧ j < L + i then byv v (q - 1 - (j - L).toNat) else h 116 j) → X (34, [oR 115, oI (q : Int), oL v, none, oI ((q : Int) - 1 - i)], [], (bg_SH n, h'), (0, 0)) := by
        refine lp_up q _ ?_ (fun i hi ih => ?_)
        · intro h' f1 f2 f3 f4
          have hR1 := hR1 h' f1 f2 (by rw [f3]; omega) f4
          rw [show (L : Int) + (q : Int) = h' 115 0 by rw [f3]; omega] at hR1
          refine hX _ ?_; conv => whnf
          refine hX _ ?_; conv => whnf
          refine ⟨fun q36 => ?_, fun q36 => ?_⟩
          · try simp (disch := omega) only [bg_w_id, Int.toNat_natCast, rw_land, sh_land, not_true_eq_false, kc0, kc1, kc2, kc3, kc4, kc5, kc6, kc7, kc8, kc9, kc10, kc11, kc12, kc13, kc14, kc15, kc16, kc17, kc18, kc19, kc20, kc21, kc22, kc23, kc24, kc25, kc26, kc27, kc28, kc29, kc30, kc31, kc32, kc33] at q36
            iterate 2 (refine hX _ ?_; conv => whnf)
            try simp only [kc0, kc1, kc2, kc3, kc4, kc5, kc6, kc7, kc8, kc9, kc10, kc11, kc12, kc13, kc14, kc15, kc16, kc17, kc18, kc19, kc20, kc21, kc22, kc23, kc24, kc25, kc26, kc27, kc28, kc29, kc30, kc31, kc32, kc33]
            refine hX _ ?_; conv => whnf
            exact hR1
          · exfalso
            (try simp (disch := omega) only [bg_w_id, Int.toNat_natCast, rw_land, sh_land, not_true_eq_false, kc0, kc1, kc2, kc3, kc4, kc5, kc6, kc7, kc8, kc9, kc10, kc11, kc12, kc13, kc14, kc15, kc16, kc17, kc18, kc19, kc20, kc21, kc22, kc23, kc24, kc25, kc26, kc27, kc28, kc29, kc30, kc31, kc32, kc33] at q36) <;> (omega)
        · intro h' f1 f2 f3 f4
          refine hX _ ?_; conv => whnf
          refine hX _ ?_; conv => whnf
          refine ⟨fun q36 => ?_, fun q36 => ?_⟩
          · exfalso
            (try simp (disch := omega) only [bg_w_id, Int.toNat_natCast, rw_land, sh_land, not_true_eq_false, f3, kc0, kc1, kc2, kc3, kc4, kc5, kc6, kc7, kc8, kc9, kc10, kc11, kc12, kc13, kc14, kc15, kc16, kc17, kc18, kc19, kc20, kc21, kc22, kc23, kc24, kc25, kc26, kc27, kc28, kc29, kc30, kc31, kc32, kc33] at q36) <;> (omega)
          · try simp (disch := omega) only [bg_w_id, Int.toNat_natCast, rw_land, sh_land, not_true_eq_false, f3, kc0, kc1, kc2, kc3, kc4, kc5, kc6, kc7, kc8, kc9, kc10, kc11, kc12, kc13, kc14, kc15, kc16, kc17, kc18, kc19, kc20, kc21, kc22, kc23, kc24, kc25, kc26, kc27, kc28, kc29, kc30, kc31, kc32, kc33] at q36
            iterate 12 (refine hX _ ?_; conv => whnf)
            refine hX _ ?_; conv => whnf
            try (simp (disch := omega) only [bg_w_id, Int.toNat_natCast, rw_land, sh_land, not_true_eq_false, f3, kc0, kc1, kc2, kc3, kc4, kc5, kc6, kc7, kc8, kc9, kc10, kc11, kc12, kc13, kc14, kc15, kc16, kc17, kc18, kc19, kc20, kc21, kc22, kc23, kc24, kc25, kc26, kc27, kc28, kc29, kc30, kc31, kc32, kc33]; try conv => whnf)
            refine ⟨by first | omega | (simp (disch := omega) only [bg_w_id, Int.toNat_natCast, rw_land, sh_land, not_true_eq_false, f3, kc0, kc1, kc2, kc3, kc4, kc5, kc6, kc7, kc8, kc9, kc10, kc11, kc12, kc13, kc14, kc15, kc16, kc17, kc18, kc19, kc20, kc21, kc22, kc23, kc24, kc25, kc26, kc27, kc28, kc29, kc30, kc31, kc32, kc33]; omega), ?_⟩
            iterate 8 (refine hX _ ?_; conv => whnf)
            try simp only [kc0, kc1, kc2, kc3, kc4, kc5, kc6, kc7, kc8, kc9, kc10, kc11, kc12, kc13, kc14, kc15, kc16, kc17, kc18, kc19, kc20, kc21, kc22, kc23, kc24, kc25, kc26, kc27, kc28, kc29, kc30, kc31, kc32, kc33]
            rw [show (q : Int) - 1 - (i : Int) + -1 = (q : Int) - 1 - ((i + 1 : Nat) : Int) by omega]
            refine ih _ (fun k k1 k2 => ?_) (fun j hj => ?_) ?_ ?_
            · rw [bg_up_ne k1, bg_up_ne k2]; exact f1 k k1 k2
            · rw [bg_up_nj hj, bg_up_ne (by omega)]; exact f2 j hj
            · rw [bg_up_self]
              simp (disch := omega) only [bg_up_ne, f3]
              omega
            · rw [bg_up_ne (by omega)]
              funext j
              rw [bg_up_at, f4]
              by_cases c : j = ((L + i : Nat) : Int)
              · rw [if_pos (by first | exact c | (rw [f3]; exact c)), if_pos (by omega)]
                unfold byv
                rw [show ((q - 1 - (j - L).toNat : Nat) : Int) = (q : Int) - 1 - i by omega]
              · rw [if_neg (by first | exact c | (rw [f3]; exact c))]
                by_cases c2 : (L : Int) ≤ j ∧ j < L + i
                · show (if (L : Int) ≤ j ∧ j < L + i then _ else _) = _
                  rw [if_pos c2, if_pos (by omega)]
                · show (if (L : Int) ≤ j ∧ j < L + i then _ else _) = _
                  rw [if_neg c2, if_neg (by omega)]
      have := l1 0 (by omega) h (fun _ _ _ => rfl) (fun _ _ => rfl) (by rw [h3]; omega) (by funext j; rw [if_neg (by omega)])
      rw [show (q : Int) - 1 - ((0 : Nat) : Int) = (q : Int) - 1 by omega] at this
      iterate 4 (refine hX _ ?_; conv => whnf)
      try simp (disch := omega) only [bg_w_id, Int.toNat_natCast, rw_land, sh_land, not_true_eq_false, h3]
      refine hX _ ?_; conv => whnf
      try simp (disch := omega) only [bg_w_id, Int.toNat_natCast, rw_land, sh_land, not_true_eq_false, h3]
      refine s_in_t d _ _ _ _ _ (by omega) (by omega) (by omega) (by omega) ?_
      conv => whnf
      refine hX _ ?_; conv => whnf
      refine ⟨fun q9 => ?_, fun q9 => ?_⟩
      · try simp (disch := omega) only [bg_w_id, Int.toNat_natCast, rw_land, sh_land, not_true_eq_false, h3, kc0, kc1, kc2, kc3, kc4, kc5, kc6, kc7, kc8, kc9, kc10, kc11, kc12, kc13, kc14, kc15, kc16, kc17, kc18, kc19, kc20, kc21, kc22, kc23, kc24, kc25, kc26, kc27, kc28, kc29, kc30, kc31, kc32, kc33] at q9
        iterate 5 (refine hX _ ?_; conv => whnf)
        try simp only [kc0, kc1, kc2, kc3, kc4, kc5, kc6, kc7, kc8, kc9, kc10, kc11, kc12, kc13, kc14, kc15, kc16, kc17, kc18, kc19, kc20, kc21, kc22, kc23, kc24, kc25, kc26, kc27, kc28, kc29, kc30, kc31, kc32, kc33]
        refine hX _ ?_; conv => whnf
        refine ⟨fun q23 => ?_, fun q23 => ?_⟩
        · try simp (disch := omega) only [bg_w_id, Int.toNat_natCast, rw_land, sh_land, not_true_eq_false, h3, kc0, kc1, kc2, kc3, kc4, kc5, kc6, kc7, kc8, kc9, kc10, kc11, kc12, kc13, kc14, kc15, kc16, kc17, kc18, kc19, kc20, kc21, kc22, kc23, kc24, kc25, kc26, kc27, kc28, kc29, kc30, kc31, kc32, kc33] at q23
          iterate 4 (refine hX _ ?_; conv => whnf)
          exact this
        · exfalso
          (try simp (disch := omega) only [bg_w_id, Int.toNat_natCast, rw_land, sh_land, not_true_eq_false, h3, kc0, kc1, kc2, kc3, kc4, kc5, kc6, kc7, kc8, kc9, kc10, kc11, kc12, kc13, kc14, kc15, kc16, kc17, kc18, kc19, kc20, kc21, kc22, kc23, kc24, kc25, kc26, kc27, kc28, kc29, kc30, kc31, kc32, kc33] at q23) <;> (omega)
      · exfalso
        (try simp (disch := omega) only [bg_w_id, Int.toNat_natCast, rw_land, sh_land, not_true_eq_false, h3, kc0, kc1, kc2, kc3, kc4, kc5, kc6, kc7, kc8, kc9, kc10, kc11, kc12, kc13, kc14, kc15, kc16, kc17, kc18, kc19, kc20, kc21, kc22, kc23, kc24, kc25, kc26, kc27, kc28, kc29, kc30, kc31, kc32, kc33] at q9) <;> (omega)
    · iterate 4 (refine hX _ ?_; conv => whnf)
      try simp (disch := omega) only [bg_w_id, Int.toNat_natCast, rw_land, sh_land, not_true_eq_false, h3]
      refine hX _ ?_; conv => whnf
      try simp (disch := omega) only [bg_w_id, Int.toNat_natCast, rw_land, sh_land, not_true_eq_false, h3]
      refine s_in_t d _ _ _ _ _ (by omega) (by omega) (by omega) (by omega) ?_
      conv => whnf
      refine hX _ ?_; conv => whnf
      refine ⟨fun q9 => ?_, fun q9 => ?_⟩
      · try simp (disch := omega) only [bg_w_id, Int.toNat_natCast, rw_land, sh_land, not_true_eq_false, h3, kc0, kc1, kc2, kc3, kc4, kc5, kc6, kc7, kc8, kc9, kc10, kc11, kc12, kc13, kc14, kc15, kc16, kc17, kc18, kc19, kc20, kc21, kc22, kc23, kc24, kc25, kc26, kc27, kc28, kc29, kc30, kc31, kc32, kc33] at q9
        iterate 5 (refine hX _ ?_; conv => whnf)
        try simp only [kc0, kc1, kc2, kc3, kc4, kc5, kc6, kc7, kc8, kc9, kc10, kc11, kc12, kc13, kc14, kc15, kc16, kc17, kc18, kc19, kc20, kc21, kc22, kc23, kc24, kc25, kc26, kc27, kc28, kc29, kc30, kc31, kc32, kc33]
        refine hX _ ?_; conv => whnf
        refine ⟨fun q23 => ?_, fun q23 => ?_⟩
        · exfalso
          (try simp (disch := omega) only [bg_w_id, Int.toNat_natCast, rw_land, sh_land, not_true_eq_false, h3, kc0, kc1, kc2, kc3, kc4, kc5, kc6, kc7, kc8, kc9, kc10, kc11, kc12, kc13, kc14, kc15, kc16, kc17, kc18, kc19, kc20, kc21, kc22, kc23, kc24, kc25, kc26, kc27, kc28, kc29, kc30, kc31, kc32, kc33] at q23) <;> (omega)
        · try simp (disch := omega) only [bg_w_id, Int.toNat_natCast, rw_land, sh_land, not_true_eq_false, h3, kc0, kc1, kc2, kc3, kc4, kc5, kc6, kc7, kc8, kc9, kc10, kc11, kc12, kc13, kc14, kc15, kc16, kc17, kc18, kc19, kc20, kc21, kc22, kc23, kc24, kc25, kc26, kc27, kc28, kc29, kc30, kc31, kc32, kc33] at q23
          refine hX _ ?_; conv => whnf
          refine hX _ ?_; conv => whnf
          exact hR2 c1 c2
      · exfalso
        (try simp (disch := omega) only [bg_w_id, Int.toNat_natCast, rw_land, sh_land, not_true_eq_false, h3, kc0, kc1, kc2, kc3, kc4, kc5, kc6, kc7, kc8, kc9, kc10, kc11, kc12, kc13, kc14, kc15, kc16, kc17, kc18, kc19, kc20, kc21, kc22, kc23, kc24, kc25, kc26, kc27, kc28, kc29, kc30, kc31, kc32, kc33] at q9) <;> (omega)
  · iterate 4 (refine hX _ ?_; conv => whnf)
    try simp (disch := omega) only [bg_w_id, Int.toNat_natCast, rw_land, sh_land, not_true_eq_false]
    refine hX _ ?_; conv => whnf
    try simp (disch := omega) only [bg_w_id, Int.toNat_natCast, rw_land, sh_land, not_true_eq_false]
    refine s_in_f d _ _ _ _ _ (by omega) (by omega) (by omega) (by omega) ?_
    conv => whnf
    refine hX _ ?_; conv => whnf
    refine ⟨fun q9 => ?_, fun q9 => ?_⟩
    · exfalso
      (try simp (disch := omega) only [bg_w_id, Int.toNat_natCast, rw_land, sh_land, not_true_eq_false, kc0, kc1, kc2, kc3, kc4, kc5, kc6, kc7, kc8, kc9, kc10, kc11, kc12, kc13, kc14, kc15, kc16, kc17, kc18, kc19, kc20, kc21, kc22, kc23, kc24, kc25, kc26, kc27, kc28, kc29, kc30, kc31, kc32, kc33] at q9) <;> (omega)
    · try simp (disch := omega) only [bg_w_id, Int.toNat_natCast, rw_land, sh_land, not_true_eq_false, kc0, kc1, kc2, kc3, kc4, kc5, kc6, kc7, kc8, kc9, kc10, kc11, kc12, kc13, kc14, kc15, kc16, kc17, kc18, kc19, kc20, kc21, kc22, kc23, kc24, kc25, kc26, kc27, kc28, kc29, kc30, kc31, kc32, kc33] at q9
      refine hX _ ?_; conv => whnf
      refine hX _ ?_; conv => whnf
      exact hR0 c1
