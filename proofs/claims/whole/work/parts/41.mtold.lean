/-! bits, game, toldOnes, tenths, told of the model -/
/-- how many there are in a set -/
def pc : Nat → Nat → Nat
  | 0, _ => 0
  | f + 1, a => a % 2 + pc f (a / 2)
theorem and_pred_odd (b : Nat) : (2 * b + 1) &&& (2 * b) = 2 * b := by
  refine Nat.eq_of_testBit_eq (fun i => ?_)
  rw [Nat.testBit_and]
  cases i with
  | zero => simp
  | succ i => rw [Nat.testBit_succ, Nat.testBit_succ, show (2 * b + 1) / 2 = b by omega, show 2 * b / 2 = b by omega, Bool.and_self]
theorem and_pred_even (b : Nat) (hb : 0 < b) : (2 * b) &&& (2 * b - 1) = 2 * (b &&& (b - 1)) := by
  refine Nat.eq_of_testBit_eq (fun i => ?_)
  rw [Nat.testBit_and]
  cases i with
  | zero => simp
  | succ i =>
    rw [Nat.testBit_succ, Nat.testBit_succ, Nat.testBit_succ, show 2 * b / 2 = b by omega, show (2 * b - 1) / 2 = b - 1 by omega, show 2 * (b &&& (b - 1)) / 2 = b &&& (b - 1) by omega, Nat.testBit_and]
theorem pc_pred : ∀ (f a : Nat), a < 2 ^ f → 0 < a → pc f (a &&& (a - 1)) + 1 = pc f a
  | 0, a, h, h0 => by simp at h; omega
  | f + 1, a, h, h0 => by
    rw [Nat.pow_succ] at h
    rcases Nat.mod_two_eq_zero_or_one a with e | e
    · obtain ⟨b, rfl⟩ : ∃ b, a = 2 * b := ⟨a / 2, by omega⟩
      have ih := pc_pred f b (by omega) (by omega)
      rw [and_pred_even b (by omega)]
      unfold pc
      rw [show 2 * (b &&& (b - 1)) / 2 = b &&& (b - 1) by omega, show 2 * b / 2 = b by omega]
      omega
    · obtain ⟨b, rfl⟩ : ∃ b, a = 2 * b + 1 := ⟨a / 2, by omega⟩
      rw [show 2 * b + 1 - 1 = 2 * b by omega, and_pred_odd b]
      unfold pc
      rw [show 2 * b / 2 = b by omega, show (2 * b + 1) / 2 = b by omega]
      omega
theorem pc_zero : ∀ f, pc f 0 = 0
  | 0 => rfl
  | f + 1 => by unfold pc; rw [pc_zero f]
theorem pc_le : ∀ f a, pc f a ≤ f
  | 0, _ => Nat.le_refl _
  | f + 1, a => by unfold pc; have := pc_le f (a / 2); omega
theorem s_mbits (d : Nat) (a : Nat) (ha : a < 32768) (H : bg_H) (Rt : bg_R) (hR : Rt (some (.inl (pc 15 a : Nat))) H) : bg_Ca bg_MS (d + 1) 114 [vI a] H Rt := by
  refine bg_ca (cd := cd_X9_bits) rfl rfl ?_
  intro X hX
  have l1 : ∀ (m k : Nat), k < 32768 → pc 15 k ≤ m → ∀ c : Nat, c + pc 15 k = pc 15 a → X (4, [oI (a : Int), oI (c : Int), oI (k : Int)], [], H, (0, 0)) := by
    intro m
    induction m with
    | zero =>
      intro k hk hm c hc
      have hk0 : k = 0 := by
        refine Decidable.byContradiction (fun e => ?_)
        have := pc_pred 15 k hk (by omega)
        omega
      subst hk0
      refine hX _ ?_; conv => whnf
      refine hX _ ?_; conv => whnf
      refine ⟨fun q5 => ?_, fun q5 => ?_⟩
      · try simp (disch := omega) only [bg_w_id, Int.toNat_natCast, rw_land, sh_land, not_true_eq_false, kc0, kc1, kc2, kc3, kc4, kc5, kc6, kc7, kc8, kc9, kc10, kc11, kc12, kc13, kc14, kc15, kc16, kc17, kc18, kc19, kc20, kc21, kc22, kc23, kc24, kc25, kc26, kc27, kc28, kc29, kc30, kc31, kc32, kc33] at q5
        refine hX _ ?_; conv => whnf
        refine hX _ ?_; conv => whnf
        rw [pc_zero] at hc
        rw [show c = pc 15 a by omega]
        exact hR
      · exfalso
        (try simp (disch := omega) only [bg_w_id, Int.toNat_natCast, rw_land, sh_land, not_true_eq_false, kc0, kc1, kc2, kc3, kc4, kc5, kc6, kc7, kc8, kc9, kc10, kc11, kc12, kc13, kc14, kc15, kc16, kc17, kc18, kc19, kc20, kc21, kc22, kc23, kc24, kc25, kc26, kc27, kc28, kc29, kc30, kc31, kc32, kc33] at q5) <;> (omega)
    | succ m ih =>
      intro k hk hm c hc
      by_cases hk0 : k = 0
      · subst hk0
        refine hX _ ?_; conv => whnf
        refine hX _ ?_; conv => whnf
        refine ⟨fun q5 => ?_, fun q5 => ?_⟩
        · try simp (disch := omega) only [bg_w_id, Int.toNat_natCast, rw_land, sh_land, not_true_eq_false, kc0, kc1, kc2, kc3, kc4, kc5, kc6, kc7, kc8, kc9, kc10, kc11, kc12, kc13, kc14, kc15, kc16, kc17, kc18, kc19, kc20, kc21, kc22, kc23, kc24, kc25, kc26, kc27, kc28, kc29, kc30, kc31, kc32, kc33] at q5
          refine hX _ ?_; conv => whnf
          refine hX _ ?_; conv => whnf
          rw [pc_zero] at hc
          rw [show c = pc 15 a by omega]
          exact hR
        · exfalso
          (try simp (disch := omega) only [bg_w_id, Int.toNat_natCast, rw_land, sh_land, not_true_eq_false, kc0, kc1, kc2, kc3, kc4, kc5, kc6, kc7, kc8, kc9, kc10, kc11, kc12, kc13, kc14, kc15, kc16, kc17, kc18, kc19, kc20, kc21, kc22, kc23, kc24, kc25, kc26, kc27, kc28, kc29, kc30, kc31, kc32, kc33] at q5) <;> (omega)
      · have hp := pc_pred 15 k hk (by omega)
        have hand : bg_and (k : Int) ((k : Int) - 1) = ((k &&& (k - 1) : Nat) : Int) := by
          rw [show (k : Int) - 1 = ((k - 1 : Nat) : Int) by omega, bn_and (by omega) (by omega)]
        have hlt : k &&& (k - 1) ≤ k := Nat.and_le_left
        refine hX _ ?_; conv => whnf
        refine hX _ ?_; conv => whnf
        refine ⟨fun q5 => ?_, fun q5 => ?_⟩
        · exfalso
          (try simp (disch := omega) only [bg_w_id, Int.toNat_natCast, rw_land, sh_land, not_true_eq_false, kc0, kc1, kc2, kc3, kc4, kc5, kc6, kc7, kc8, kc9, kc10, kc11, kc12, kc13, kc14, kc15, kc16, kc17, kc18, kc19, kc20, kc21, kc22, kc23, kc24, kc25, kc26, kc27, kc28, kc29, kc30, kc31, kc32, kc33] at q5) <;> (omega)
        · try simp (disch := omega) only [bg_w_id, Int.toNat_natCast, rw_land, sh_land, not_true_eq_false, kc0, kc1, kc2, kc3, kc4, kc5, kc6, kc7, kc8, kc9, kc10, kc11, kc12, kc13, kc14, kc15, kc16, kc17, kc18, kc19, kc20, kc21, kc22, kc23, kc24, kc25, kc26, kc27, kc28, kc29, kc30, kc31, kc32, kc33] at q5
          iterate 8 (refine hX _ ?_; conv => whnf)
          have := ih (k &&& (k - 1)) (by omega) (by omega) (c + 1) (by omega)
          rw [← hand] at this
          exact this
  iterate 4 (refine hX _ ?_; conv => whnf)
  exact l1 15 a ha (pc_le _ _) 0 (by omega)
def toldM (h : bg_G) (side : Int) : Int := fo 4 (fun k a => bg_or a (if 0 ≤ (if side = 0 then h 122 k else h 123 k) then bg_shl 1 k else 0)) 0
theorem s_mtoldOnes (d n : Nat) (side : Int) (hs : 0 ≤ side ∧ side ≤ 1) (h : bg_G) (hr : ∀ k : Nat, k < 4 → i32 (h 122 k) ∧ i32 (h 123 k)) (Rt : bg_R) (hR : Rt (some (.inl (toldM h side))) (bg_SH n, h)) : bg_Ca bg_MS (d + 1) 168 [vR 115, vI side] (bg_SH n, h) Rt := by
  refine bg_ca (cd := cd_X9_toldOnes) rfl rfl ?_
  intro X hX
  have l1 : ∀ k, k ≤ 4 → X (4, [oR 115, oI side, oI (fo k (fun k a => bg_or a (if 0 ≤ (if side = 0 then h 122 k else h 123 k) then bg_shl 1 k else 0)) 0), oI (k : Int)], [], (bg_SH n, h), (0, 0)) := by
    refine lp_up 4 _ ?_ (fun k hk ih => ?_)
    · iterate 2 (refine hX _ ?_; conv => whnf)
      refine hX _ ?_; conv => whnf
      refine ⟨fun q6 => ?_, fun q6 => ?_⟩
      · try simp (disch := omega) only [bg_w_id, Int.toNat_natCast, rw_land, sh_land, not_true_eq_false, kc0, kc1, kc2, kc3, kc4, kc5, kc6, kc7, kc8, kc9, kc10, kc11, kc12, kc13, kc14, kc15, kc16, kc17, kc18, kc19, kc20, kc21, kc22, kc23, kc24, kc25, kc26, kc27, kc28, kc29, kc30, kc31, kc32, kc33] at q6
        refine hX _ ?_; conv => whnf
        refine hX _ ?_; conv => whnf
        exact hR
      · exfalso
        (try simp (disch := omega) only [bg_w_id, Int.toNat_natCast, rw_land, sh_land, not_true_eq_false, kc0, kc1, kc2, kc3, kc4, kc5, kc6, kc7, kc8, kc9, kc10, kc11, kc12, kc13, kc14, kc15, kc16, kc17, kc18, kc19, kc20, kc21, kc22, kc23, kc24, kc25, kc26, kc27, kc28, kc29, kc30, kc31, kc32, kc33] at q6) <;> (omega)
    · have r := hr k hk
      have ih : X (4, [oR 115, oI side, oI (bg_or (fo k (fun k a => bg_or a (if 0 ≤ (if side = 0 then h 122 k else h 123 k) then bg_shl 1 k else 0)) 0) (if 0 ≤ (if side = 0 then h 122 k else h 123 k) then bg_shl 1 k else 0)), oI ((k : Int) + 1)], [], (bg_SH n, h), (0, 0)) := ih
      by_cases c : side = 0
      · rw [if_pos c] at ih
        iterate 2 (refine hX _ ?_; conv => whnf)
        refine hX _ ?_; conv => whnf
        refine ⟨fun q6 => ?_, fun q6 => ?_⟩
        · exfalso
          (try simp (disch := omega) only [bg_w_id, Int.toNat_natCast, rw_land, sh_land, not_true_eq_false, kc0, kc1, kc2, kc3, kc4, kc5, kc6, kc7, kc8, kc9, kc10, kc11, kc12, kc13, kc14, kc15, kc16, kc17, kc18, kc19, kc20, kc21, kc22, kc23, kc24, kc25, kc26, kc27, kc28, kc29, kc30, kc31, kc32, kc33] at q6) <;> (omega)
        · try simp (disch := omega) only [bg_w_id, Int.toNat_natCast, rw_land, sh_land, not_true_eq_false, kc0, kc1, kc2, kc3, kc4, kc5, kc6, kc7, kc8, kc9, kc10, kc11, kc12, kc13, kc14, kc15, kc16, kc17, kc18, kc19, kc20, kc21, kc22, kc23, kc24, kc25, kc26, kc27, kc28, kc29, kc30, kc31, kc32, kc33] at q6
          iterate 2 (refine hX _ ?_; conv => whnf)
          refine hX _ ?_; conv => whnf
          refine ⟨fun q11 => ?_, fun q11 => ?_⟩
          · exfalso
            (try simp (disch := omega) only [bg_w_id, Int.toNat_natCast, rw_land, sh_land, not_true_eq_false, kc0, kc1, kc2, kc3, kc4, kc5, kc6, kc7, kc8, kc9, kc10, kc11, kc12, kc13, kc14, kc15, kc16, kc17, kc18, kc19, kc20, kc21, kc22, kc23, kc24, kc25, kc26, kc27, kc28, kc29, kc30, kc31, kc32, kc33] at q11) <;> (omega)
          · try simp (disch := omega) only [bg_w_id, Int.toNat_natCast, rw_land, sh_land, not_true_eq_false, kc0, kc1, kc2, kc3, kc4, kc5, kc6, kc7, kc8, kc9, kc10, kc11, kc12, kc13, kc14, kc15, kc16, kc17, kc18, kc19, kc20, kc21, kc22, kc23, kc24, kc25, kc26, kc27, kc28, kc29, kc30, kc31, kc32, kc33] at q11
            iterate 3 (refine hX _ ?_; conv => whnf)
            refine hX _ ?_; conv => whnf
            try (simp (disch := omega) only [bg_w_id, Int.toNat_natCast, rw_land, sh_land, not_true_eq_false]; try conv => whnf)
            refine ⟨by first | omega | (simp (disch := omega) only [bg_w_id, Int.toNat_natCast, rw_land, sh_land, not_true_eq_false]; omega), ?_⟩
            refine hX _ ?_; conv => whnf
            refine hX _ ?_; conv => whnf
            refine ⟨fun q29 => ?_, fun q29 => ?_⟩
            · try simp (disch := omega) only [bg_w_id, Int.toNat_natCast, rw_land, sh_land, not_true_eq_false, kc0, kc1, kc2, kc3, kc4, kc5, kc6, kc7, kc8, kc9, kc10, kc11, kc12, kc13, kc14, kc15, kc16, kc17, kc18, kc19, kc20, kc21, kc22, kc23, kc24, kc25, kc26, kc27, kc28, kc29, kc30, kc31, kc32, kc33] at q29
              iterate 5 (refine hX _ ?_; conv => whnf)
              first
              | (rw [if_pos (by omega)] at ih; exact ih)
              | (rw [if_neg (by omega)] at ih; exact ih)
            · try simp (disch := omega) only [bg_w_id, Int.toNat_natCast, rw_land, sh_land, not_true_eq_false, kc0, kc1, kc2, kc3, kc4, kc5, kc6, kc7, kc8, kc9, kc10, kc11, kc12, kc13, kc14, kc15, kc16, kc17, kc18, kc19, kc20, kc21, kc22, kc23, kc24, kc25, kc26, kc27, kc28, kc29, kc30, kc31, kc32, kc33] at q29
              iterate 8 (refine hX _ ?_; conv => whnf)
              first
              | (rw [if_pos (by omega)] at ih; exact ih)
              | (rw [if_neg (by omega)] at ih; exact ih)
      · rw [if_neg c] at ih
        iterate 2 (refine hX _ ?_; conv => whnf)
        refine hX _ ?_; conv => whnf
        refine ⟨fun q6 => ?_, fun q6 => ?_⟩
        · exfalso
          (try simp (disch := omega) only [bg_w_id, Int.toNat_natCast, rw_land, sh_land, not_true_eq_false, kc0, kc1, kc2, kc3, kc4, kc5, kc6, kc7, kc8, kc9, kc10, kc11, kc12, kc13, kc14, kc15, kc16, kc17, kc18, kc19, kc20, kc21, kc22, kc23, kc24, kc25, kc26, kc27, kc28, kc29, kc30, kc31, kc32, kc33] at q6) <;> (omega)
        · try simp (disch := omega) only [bg_w_id, Int.toNat_natCast, rw_land, sh_land, not_true_eq_false, kc0, kc1, kc2, kc3, kc4, kc5, kc6, kc7, kc8, kc9, kc10, kc11, kc12, kc13, kc14, kc15, kc16, kc17, kc18, kc19, kc20, kc21, kc22, kc23, kc24, kc25, kc26, kc27, kc28, kc29, kc30, kc31, kc32, kc33] at q6
          iterate 2 (refine hX _ ?_; conv => whnf)
          refine hX _ ?_; conv => whnf
          refine ⟨fun q11 => ?_, fun q11 => ?_⟩
          · try simp (disch := omega) only [bg_w_id, Int.toNat_natCast, rw_land, sh_land, not_true_eq_false, kc0, kc1, kc2, kc3, kc4, kc5, kc6, kc7, kc8, kc9, kc10, kc11, kc12, kc13, kc14, kc15, kc16, kc17, kc18, kc19, kc20, kc21, kc22, kc23, kc24, kc25, kc26, kc27, kc28, kc29, kc30, kc31, kc32, kc33] at q11
            iterate 3 (refine hX _ ?_; conv => whnf)
            refine hX _ ?_; conv => whnf
            try (simp (disch := omega) only [bg_w_id, Int.toNat_natCast, rw_land, sh_land, not_true_eq_false]; try conv => whnf)
            refine ⟨by first | omega | (simp (disch := omega) only [bg_w_id, Int.toNat_natCast, rw_land, sh_land, not_true_eq_false]; omega), ?_⟩
            refine hX _ ?_; conv => whnf
            refine ⟨fun q29 => ?_, fun q29 => ?_⟩
            · try simp (disch := omega) only [bg_w_id, Int.toNat_natCast, rw_land, sh_land, not_true_eq_false, kc0, kc1, kc2, kc3, kc4, kc5, kc6, kc7, kc8, kc9, kc10, kc11, kc12, kc13, kc14, kc15, kc16, kc17, kc18, kc19, kc20, kc21, kc22, kc23, kc24, kc25, kc26, kc27, kc28, kc29, kc30, kc31, kc32, kc33] at q29
              iterate 5 (refine hX _ ?_; conv => whnf)
              first
              | (rw [if_pos (by omega)] at ih; exact ih)
              | (rw [if_neg (by omega)] at ih; exact ih)
            · try simp (disch := omega) only [bg_w_id, Int.toNat_natCast, rw_land, sh_land, not_true_eq_false, kc0, kc1, kc2, kc3, kc4, kc5, kc6, kc7, kc8, kc9, kc10, kc11, kc12, kc13, kc14, kc15, kc16, kc17, kc18, kc19, kc20, kc21, kc22, kc23, kc24, kc25, kc26, kc27, kc28, kc29, kc30, kc31, kc32, kc33] at q29
              iterate 8 (refine hX _ ?_; conv => whnf)
              first
              | (rw [if_pos (by omega)] at ih; exact ih)
              | (rw [if_neg (by omega)] at ih; exact ih)
          · exfalso
            (try simp (disch := omega) only [bg_w_id, Int.toNat_natCast, rw_land, sh_land, not_true_eq_false, kc0, kc1, kc2, kc3, kc4, kc5, kc6, kc7, kc8, kc9, kc10, kc11, kc12, kc13, kc14, kc15, kc16, kc17, kc18, kc19, kc20, kc21, kc22, kc23, kc24, kc25, kc26, kc27, kc28, kc29, kc30, kc31, kc32, kc33] at q11) <;> (omega)
  iterate 4 (refine hX _ ?_; conv => whnf)
  exact l1 0 (by omega)
/-- who takes part -/
def tSet (r : Nat → Int) : Nat := stN 4 (fun k => decide (0 ≤ r k))
theorem bg_or_0 {a : Nat} (ha : a < 2147483648) : bg_or a 0 = a := by
  rw [show (0 : Int) = ((0 : Nat) : Int) from rfl, bn_or ha (by omega), Nat.or_zero]
theorem fo_st2 {P : Nat → Bool} {f : Nat → Int → Int} : ∀ {n : Nat}, n ≤ 30 → (∀ p a, p < n → f p a = bg_or a (if P p then bg_shl 1 p else 0)) → fo n f 0 = (stN n P : Int)
  | 0, _, _ => rfl
  | n + 1, hn, hf => by
    have ih := fo_st2 (n := n) (by omega) (fun p a hp => hf p a (by omega))
    show f n (fo n f 0) = _
    rw [ih, hf n _ (by omega), show stN (n + 1) P = if P n then stN n P ||| 2 ^ n else stN n P from rfl]
    have r := Nat.lt_trans (stN_lt P n) (p2_lt (show n ≤ 30 by omega))
    split
    · rw [bn_bit (by omega), bn_or r (p2_lt (by omega))]
    · rw [bg_or_0 r]
theorem toldM_0 (h : bg_G) : toldM h 0 = (tSet (fun k => h 122 k) : Nat) := by
  refine fo_st2 (by omega) (fun p a hp => ?_)
  simp
theorem toldM_1 (h : bg_G) : toldM h 1 = (tSet (fun k => h 123 k) : Nat) := by
  refine fo_st2 (by omega) (fun p a hp => ?_)
  simp
theorem tSet_lt (r : Nat → Int) : tSet r < 16 := stN_lt _ 4
theorem tSet_bt (r : Nat → Int) {k : Nat} (hk : k < 4) : bt (tSet r : Nat) k = if 0 ≤ r k then 1 else 0 := by
  unfold tSet
  rw [bt_st (by omega) (by omega)]
  simp [hk]
/-- what carrier c brings by guard g: model -/
def gmM (h : bg_G) (g c : Nat) : Int := thrM h (heldM h (h 122 g)) (h 123 c).toNat
theorem s_mgame (d n g c : Nat) (hg4 : g < 4) (hc4 : c < 4) (h0 h : bg_G) (ho : okM h0) (hf : frW h0 h) (hw : 0 ≤ h0 123 c ∧ h0 123 c < (wsM h0).length) (Rt : bg_R) (hR : Rt (some (.inl (gmM h0 g c))) (bg_SH n, h)) : bg_Ca bg_MS (d + 4) 167 [vR 115, vI g, vI c] (bg_SH n, h) Rt := by
  have e121 := hf.1 122 (by omega) (by omega) (by omega) (by omega)
  have e122 := hf.1 123 (by omega) (by omega) (by omega) (by omega)
  obtain ⟨v, ev⟩ : ∃ v : Nat, h0 123 c = v := ⟨(h0 123 c).toNat, by omega⟩
  unfold gmM at hR
  rw [ev, Int.toNat_natCast] at hR
  refine bg_ca (cd := cd_X9_game) rfl rfl ?_
  intro X hX
  iterate 5 (refine hX _ ?_; conv => whnf)
  refine hX _ ?_; conv => whnf
  try (simp (disch := omega) only [bg_w_id, Int.toNat_natCast, rw_land, sh_land, not_true_eq_false, e121, e122]; try conv => whnf)
  refine ⟨by first | omega | (simp (disch := omega) only [bg_w_id, Int.toNat_natCast, rw_land, sh_land, not_true_eq_false, e121, e122]; omega), ?_⟩
  refine hX _ ?_; conv => whnf
  try simp (disch := omega) only [bg_w_id, Int.toNat_natCast, rw_land, sh_land, not_true_eq_false, e121, e122]
  refine s_mheldBy (d + 1) _ _ _ _ ?_
  rw [frW_held hf]
  conv => whnf
  iterate 3 (refine hX _ ?_; conv => whnf)
  refine hX _ ?_; conv => whnf
  try (simp (disch := omega) only [bg_w_id, Int.toNat_natCast, rw_land, sh_land, not_true_eq_false, e121, e122]; try conv => whnf)
  refine ⟨by first | omega | (simp (disch := omega) only [bg_w_id, Int.toNat_natCast, rw_land, sh_land, not_true_eq_false, e121, e122]; omega), ?_⟩
  refine hX _ ?_; conv => whnf
  try simp (disch := omega) only [bg_w_id, Int.toNat_natCast, rw_land, sh_land, not_true_eq_false, e121, e122]
  rw [ev]
  refine s_mthr d n _ v h0 h ho hf (by omega) _ ?_
  conv => whnf
  refine hX _ ?_; conv => whnf
  exact hR
theorem s_mtenths (d n : Nat) (p v : Int) (hp : i32 p) (hv : i32 v) (h : bg_G) (Rt : bg_R) (hR1 : (0 ≤ p ∧ p ≤ 3) → (0 ≤ v ∧ v ≤ 10) → Rt (some (.inl (h 125 p))) (bg_SH n, bg_up h 125 p v)) (hR0 : ¬ ((0 ≤ p ∧ p ≤ 3) ∧ (0 ≤ v ∧ v ≤ 10)) → Rt (some (.inl (-1))) (bg_SH n, h)) : bg_Ca bg_MS (d + 2) 180 [vR 115, vI p, vI v] (bg_SH n, h) Rt := by
  refine bg_ca (cd := cd_X9_tenths) rfl rfl ?_
  intro X hX
  by_cases c1 : 0 ≤ p ∧ p ≤ 3
  · by_cases c2 : 0 ≤ v ∧ v ≤ 10
    · iterate 4 (refine hX _ ?_; conv => whnf)
      try simp (disch := omega) only [bg_w_id, Int.toNat_natCast, rw_land, sh_land, not_true_eq_false]
      refine hX _ ?_; conv => whnf
      try simp (disch := omega) only [bg_w_id, Int.toNat_natCast, rw_land, sh_land, not_true_eq_false]
      refine s_in_t d _ _ _ _ _ (by omega) (by omega) (by omega) c1 ?_
      conv => whnf
      refine hX _ ?_; conv => whnf
      refine ⟨fun q9 => ?_, fun q9 => ?_⟩
      · exfalso
        (try simp (disch := omega) only [bg_w_id, Int.toNat_natCast, rw_land, sh_land, not_true_eq_false, kc0, kc1, kc2, kc3, kc4, kc5, kc6, kc7, kc8, kc9, kc10, kc11, kc12, kc13, kc14, kc15, kc16, kc17, kc18, kc19, kc20, kc21, kc22, kc23, kc24, kc25, kc26, kc27, kc28, kc29, kc30, kc31, kc32, kc33] at q9) <;> (omega)
      · try simp (disch := omega) only [bg_w_id, Int.toNat_natCast, rw_land, sh_land, not_true_eq_false, kc0, kc1, kc2, kc3, kc4, kc5, kc6, kc7, kc8, kc9, kc10, kc11, kc12, kc13, kc14, kc15, kc16, kc17, kc18, kc19, kc20, kc21, kc22, kc23, kc24, kc25, kc26, kc27, kc28, kc29, kc30, kc31, kc32, kc33] at q9
        iterate 4 (refine hX _ ?_; conv => whnf)
        try simp (disch := omega) only [bg_w_id, Int.toNat_natCast, rw_land, sh_land, not_true_eq_false]
        refine hX _ ?_; conv => whnf
        try simp (disch := omega) only [bg_w_id, Int.toNat_natCast, rw_land, sh_land, not_true_eq_false]
        refine s_in_t d _ _ _ _ _ (by omega) (by omega) (by omega) c2 ?_
        conv => whnf
        refine hX _ ?_; conv => whnf
        refine ⟨fun q21 => ?_, fun q21 => ?_⟩
        · try simp (disch := omega) only [bg_w_id, Int.toNat_natCast, rw_land, sh_land, not_true_eq_false, kc0, kc1, kc2, kc3, kc4, kc5, kc6, kc7, kc8, kc9, kc10, kc11, kc12, kc13, kc14, kc15, kc16, kc17, kc18, kc19, kc20, kc21, kc22, kc23, kc24, kc25, kc26, kc27, kc28, kc29, kc30, kc31, kc32, kc33] at q21
          iterate 3 (refine hX _ ?_; conv => whnf)
          refine hX _ ?_; conv => whnf
          try (simp (disch := omega) only [bg_w_id, Int.toNat_natCast, rw_land, sh_land, not_true_eq_false]; try conv => whnf)
          refine ⟨by first | omega | (simp (disch := omega) only [bg_w_id, Int.toNat_natCast, rw_land, sh_land, not_true_eq_false]; omega), ?_⟩
          iterate 5 (refine hX _ ?_; conv => whnf)
          refine hX _ ?_; conv => whnf
          try (simp (disch := omega) only [bg_w_id, Int.toNat_natCast, rw_land, sh_land, not_true_eq_false]; try conv => whnf)
          refine ⟨by first | omega | (simp (disch := omega) only [bg_w_id, Int.toNat_natCast, rw_land, sh_land, not_true_eq_false]; omega), ?_⟩
          refine hX _ ?_; conv => whnf
          refine hX _ ?_; conv => whnf
          exact hR1 c1 c2
        · exfalso
          (try simp (disch := omega) only [bg_w_id, Int.toNat_natCast, rw_land, sh_land, not_true_eq_false, kc0, kc1, kc2, kc3, kc4, kc5, kc6, kc7, kc8, kc9, kc10, kc11, kc12, kc13, kc14, kc15, kc16, kc17, kc18, kc19, kc20, kc21, kc22, kc23, kc24, kc25, kc26, kc27, kc28, kc29, kc30, kc31, kc32, kc33] at q21) <;> (omega)
    · iterate 4 (refine hX _ ?_; conv => whnf)
      try simp (disch := omega) only [bg_w_id, Int.toNat_natCast, rw_land, sh_land, not_true_eq_false]
      refine hX _ ?_; conv => whnf
      try simp (disch := omega) only [bg_w_id, Int.toNat_natCast, rw_land, sh_land, not_true_eq_false]
      refine s_in_t d _ _ _ _ _ (by omega) (by omega) (by omega) c1 ?_
      conv => whnf
      refine hX _ ?_; conv => whnf
      refine ⟨fun q9 => ?_, fun q9 => ?_⟩
      · exfalso
        (try simp (disch := omega) only [bg_w_id, Int.toNat_natCast, rw_land, sh_land, not_true_eq_false, kc0, kc1, kc2, kc3, kc4, kc5, kc6, kc7, kc8, kc9, kc10, kc11, kc12, kc13, kc14, kc15, kc16, kc17, kc18, kc19, kc20, kc21, kc22, kc23, kc24, kc25, kc26, kc27, kc28, kc29, kc30, kc31, kc32, kc33] at q9) <;> (omega)
      · try simp (disch := omega) only [bg_w_id, Int.toNat_natCast, rw_land, sh_land, not_true_eq_false, kc0, kc1, kc2, kc3, kc4, kc5, kc6, kc7, kc8, kc9, kc10, kc11, kc12, kc13, kc14, kc15, kc16, kc17, kc18, kc19, kc20, kc21, kc22, kc23, kc24, kc25, kc26, kc27, kc28, kc29, kc30, kc31, kc32, kc33] at q9
        iterate 4 (refine hX _ ?_; conv => whnf)
        try simp (disch := omega) only [bg_w_id, Int.toNat_natCast, rw_land, sh_land, not_true_eq_false]
        refine hX _ ?_; conv => whnf
        try simp (disch := omega) only [bg_w_id, Int.toNat_natCast, rw_land, sh_land, not_true_eq_false]
        refine s_in_f d _ _ _ _ _ (by omega) (by omega) (by omega) c2 ?_
        conv => whnf
        refine hX _ ?_; conv => whnf
        refine ⟨fun q21 => ?_, fun q21 => ?_⟩
        · exfalso
          (try simp (disch := omega) only [bg_w_id, Int.toNat_natCast, rw_land, sh_land, not_true_eq_false, kc0, kc1, kc2, kc3, kc4, kc5, kc6, kc7, kc8, kc9, kc10, kc11, kc12, kc13, kc14, kc15, kc16, kc17, kc18, kc19, kc20, kc21, kc22, kc23, kc24, kc25, kc26, kc27, kc28, kc29, kc30, kc31, kc32, kc33] at q21) <;> (omega)
        · try simp (disch := omega) only [bg_w_id, Int.toNat_natCast, rw_land, sh_land, not_true_eq_false, kc0, kc1, kc2, kc3, kc4, kc5, kc6, kc7, kc8, kc9, kc10, kc11, kc12, kc13, kc14, kc15, kc16, kc17, kc18, kc19, kc20, kc21, kc22, kc23, kc24, kc25, kc26, kc27, kc28, kc29, kc30, kc31, kc32, kc33] at q21
          refine hX _ ?_; conv => whnf
          refine hX _ ?_; conv => whnf
          exact hR0 (fun e => c2 e.2)
  · iterate 4 (refine hX _ ?_; conv => whnf)
    try simp (disch := omega) only [bg_w_id, Int.toNat_natCast, rw_land, sh_land, not_true_eq_false]
    refine hX _ ?_; conv => whnf
    try simp (disch := omega) only [bg_w_id, Int.toNat_natCast, rw_land, sh_land, not_true_eq_false]
    refine s_in_f d _ _ _ _ _ (by omega) (by omega) (by omega) c1 ?_
    conv => whnf
    refine hX _ ?_; conv => whnf
    refine ⟨fun q9 => ?_, fun q9 => ?_⟩
    · try simp (disch := omega) only [bg_w_id, Int.toNat_natCast, rw_land, sh_land, not_true_eq_false, kc0, kc1, kc2, kc3, kc4, kc5, kc6, kc7, kc8, kc9, kc10, kc11, kc12, kc13, kc14, kc15, kc16, kc17, kc18, kc19, kc20, kc21, kc22, kc23, kc24, kc25, kc26, kc27, kc28, kc29, kc30, kc31, kc32, kc33] at q9
      refine hX _ ?_; conv => whnf
      refine hX _ ?_; conv => whnf
      exact hR0 (fun e => c1 e.1)
    · exfalso
      (try simp (disch := omega) only [bg_w_id, Int.toNat_natCast, rw_land, sh_land, not_true_eq_false, kc0, kc1, kc2, kc3, kc4, kc5, kc6, kc7, kc8, kc9, kc10, kc11, kc12, kc13, kc14, kc15, kc16, kc17, kc18, kc19, kc20, kc21, kc22, kc23, kc24, kc25, kc26, kc27, kc28, kc29, kc30, kc31, kc32, kc33] at q9) <;> (omega)
