theorem s_arePosts (d n : Nat) (s : Int) (h : bg_G) (Rt : bg_R) (hs : -2147483648 ≤ s ∧ s ≤ 2147483647) (hR : Rt (some (.inl (if 0 ≤ s then isp (h 117 0) (h 119 0) s else 0))) (bg_SH n, h)) : bg_Ca bg_MS (d + 1) 130 [vR 115, vI s] (bg_SH n, h) Rt := by
  refine bg_ca (cd := cd_X9_arePosts) rfl rfl ?_
  intro X hX
  unfold isp allp at hR
  iterate 4 (refine hX _ ?_; conv => whnf)
  refine hX _ ?_; conv => whnf
  try (simp (disch := omega) only [bg_w_id, Int.toNat_natCast, rw_land, sh_land, not_true_eq_false]; try conv => whnf)
  refine ⟨by first | omega | (simp (disch := omega) only [bg_w_id, Int.toNat_natCast, rw_land, sh_land, not_true_eq_false]; omega), ?_⟩
  iterate 7 (refine hX _ ?_; conv => whnf)
  refine hX _ ?_; conv => whnf
  try (simp (disch := omega) only [bg_w_id, Int.toNat_natCast, rw_land, sh_land, not_true_eq_false]; try conv => whnf)
  refine ⟨by first | omega | (simp (disch := omega) only [bg_w_id, Int.toNat_natCast, rw_land, sh_land, not_true_eq_false]; omega), ?_⟩
  iterate 8 (refine hX _ ?_; conv => whnf)
  refine hX _ ?_; conv => whnf
  refine ⟨fun q26 => ?_, fun q26 => ?_⟩
  · try simp (disch := omega) only [bg_w_id, Int.toNat_natCast, rw_land, sh_land, not_true_eq_false, kc0, kc1, kc2, kc3, kc4, kc5, kc6, kc7, kc8, kc9, kc10, kc11, kc12, kc13, kc14, kc15, kc16, kc17, kc18, kc19, kc20, kc21, kc22, kc23, kc24, kc25, kc26, kc27, kc28, kc29, kc30, kc31, kc32, kc33] at q26
    refine hX _ ?_; conv => whnf
    refine hX _ ?_; conv => whnf
    first
    | (rw [if_neg (by omega)] at hR; exact ⟨Or.inl rfl, hR⟩)
    | (rw [if_pos (by omega), if_neg q34] at hR; exact ⟨Or.inl rfl, hR⟩)
    | (rw [if_pos (by omega), if_pos q34] at hR; exact ⟨Or.inr rfl, hR⟩)
  · try simp (disch := omega) only [bg_w_id, Int.toNat_natCast, rw_land, sh_land, not_true_eq_false, kc0, kc1, kc2, kc3, kc4, kc5, kc6, kc7, kc8, kc9, kc10, kc11, kc12, kc13, kc14, kc15, kc16, kc17, kc18, kc19, kc20, kc21, kc22, kc23, kc24, kc25, kc26, kc27, kc28, kc29, kc30, kc31, kc32, kc33] at q26
    iterate 5 (refine hX _ ?_; conv => whnf)
    refine hX _ ?_; conv => whnf
    refine ⟨fun q34 => ?_, fun q34 => ?_⟩
    · try simp (disch := omega) only [bg_w_id, Int.toNat_natCast, rw_land, sh_land, not_true_eq_false, kc0, kc1, kc2, kc3, kc4, kc5, kc6, kc7, kc8, kc9, kc10, kc11, kc12, kc13, kc14, kc15, kc16, kc17, kc18, kc19, kc20, kc21, kc22, kc23, kc24, kc25, kc26, kc27, kc28, kc29, kc30, kc31, kc32, kc33] at q34
      rw [bg_and_w] at q34
      refine hX _ ?_; conv => whnf
      refine hX _ ?_; conv => whnf
      first
      | (rw [if_neg (by omega)] at hR; exact ⟨Or.inl rfl, hR⟩)
      | (rw [if_pos (by omega), if_neg q34] at hR; exact ⟨Or.inl rfl, hR⟩)
      | (rw [if_pos (by omega), if_pos q34] at hR; exact ⟨Or.inr rfl, hR⟩)
    · try simp (disch := omega) only [bg_w_id, Int.toNat_natCast, rw_land, sh_land, not_true_eq_false, kc0, kc1, kc2, kc3, kc4, kc5, kc6, kc7, kc8, kc9, kc10, kc11, kc12, kc13, kc14, kc15, kc16, kc17, kc18, kc19, kc20, kc21, kc22, kc23, kc24, kc25, kc26, kc27, kc28, kc29, kc30, kc31, kc32, kc33] at q34
      rw [bg_and_w] at q34
      iterate 2 (refine hX _ ?_; conv => whnf)
      refine hX _ ?_; conv => whnf
      first
      | (rw [if_neg (by omega)] at hR; exact ⟨Or.inl rfl, hR⟩)
      | (rw [if_pos (by omega), if_neg q34] at hR; exact ⟨Or.inl rfl, hR⟩)
      | (rw [if_pos (by omega), if_pos q34] at hR; exact ⟨Or.inr rfl, hR⟩)
/-- the number of bits of the kinds of posts, times what each costs -/
theorem s_mcostOf (d n : Nat) (s : Int) (h : bg_G) (Rt : bg_R) (hR : Rt (some (.inl (sm 12 (fun i => bt s i * h 118 (7 * i + 4)) + sm 3 (fun t => bt s (12 + t) * h 120 (3 * t + 2))))) (bg_SH n, h)) : bg_Ca bg_MS (d + 2) 131 [vR 115, vI s] (bg_SH n, h) Rt := by
  refine bg_ca (cd := cd_X9_costOf) rfl rfl ?_
  intro X hX
  have l2 : ∀ i, i ≤ 3 → X (44, [oR 115, oI s, oI (sm 12 (fun i => bt s i * h 118 (7 * i + 4)) + sm i (fun t => bt s (12 + t) * h 120 (3 * t + 2))), oI (i : Int)], [], (bg_SH n, h), (0, 0)) := by
    refine lp_up 3 _ ?_ (fun i hi ih => ?_)
    · iterate 2 (refine hX _ ?_; conv => whnf)
      refine hX _ ?_; conv => whnf
      refine ⟨fun q46 => ?_, fun q46 => ?_⟩
      · try simp (disch := omega) only [bg_w_id, Int.toNat_natCast, rw_land, sh_land, not_true_eq_false, kc0, kc1, kc2, kc3, kc4, kc5, kc6, kc7, kc8, kc9, kc10, kc11, kc12, kc13, kc14, kc15, kc16, kc17, kc18, kc19, kc20, kc21, kc22, kc23, kc24, kc25, kc26, kc27, kc28, kc29, kc30, kc31, kc32, kc33] at q46
        refine hX _ ?_; conv => whnf
        refine hX _ ?_; conv => whnf
        exact hR
      · exfalso
        (try simp (disch := omega) only [bg_w_id, Int.toNat_natCast, rw_land, sh_land, not_true_eq_false, kc0, kc1, kc2, kc3, kc4, kc5, kc6, kc7, kc8, kc9, kc10, kc11, kc12, kc13, kc14, kc15, kc16, kc17, kc18, kc19, kc20, kc21, kc22, kc23, kc24, kc25, kc26, kc27, kc28, kc29, kc30, kc31, kc32, kc33] at q46) <;> (omega)
    · iterate 2 (refine hX _ ?_; conv => whnf)
      refine hX _ ?_; conv => whnf
      refine ⟨fun q46 => ?_, fun q46 => ?_⟩
      · exfalso
        (try simp (disch := omega) only [bg_w_id, Int.toNat_natCast, rw_land, sh_land, not_true_eq_false, kc0, kc1, kc2, kc3, kc4, kc5, kc6, kc7, kc8, kc9, kc10, kc11, kc12, kc13, kc14, kc15, kc16, kc17, kc18, kc19, kc20, kc21, kc22, kc23, kc24, kc25, kc26, kc27, kc28, kc29, kc30, kc31, kc32, kc33] at q46) <;> (omega)
      · try simp (disch := omega) only [bg_w_id, Int.toNat_natCast, rw_land, sh_land, not_true_eq_false, kc0, kc1, kc2, kc3, kc4, kc5, kc6, kc7, kc8, kc9, kc10, kc11, kc12, kc13, kc14, kc15, kc16, kc17, kc18, kc19, kc20, kc21, kc22, kc23, kc24, kc25, kc26, kc27, kc28, kc29, kc30, kc31, kc32, kc33] at q46
        iterate 5 (refine hX _ ?_; conv => whnf)
        refine hX _ ?_; conv => whnf
        try simp (disch := omega) only [bg_w_id, Int.toNat_natCast, rw_land, sh_land, not_true_eq_false]
        refine s_has d _ _ _ _ ?_
        conv => whnf
        refine hX _ ?_; conv => whnf
        refine ⟨fun q58 => ?_, fun q58 => ?_⟩
        · try simp (disch := omega) only [bg_w_id, Int.toNat_natCast, rw_land, sh_land, not_true_eq_false, kc0, kc1, kc2, kc3, kc4, kc5, kc6, kc7, kc8, kc9, kc10, kc11, kc12, kc13, kc14, kc15, kc16, kc17, kc18, kc19, kc20, kc21, kc22, kc23, kc24, kc25, kc26, kc27, kc28, kc29, kc30, kc31, kc32, kc33] at q58
          rw [bt_w] at q58
          iterate 5 (refine hX _ ?_; conv => whnf)
          have e : sm (i + 1) (fun t => bt s (12 + t) * h 120 (3 * t + 2)) = sm i (fun t => bt s (12 + t) * h 120 (3 * t + 2)) + bt s (12 + i) * h 120 (3 * i + 2) := rfl
          rw [e, q58] at ih
          simp only [Int.zero_mul, Int.one_mul, ← Int.add_assoc] at ih
          exact ih
        · try simp (disch := omega) only [bg_w_id, Int.toNat_natCast, rw_land, sh_land, not_true_eq_false, kc0, kc1, kc2, kc3, kc4, kc5, kc6, kc7, kc8, kc9, kc10, kc11, kc12, kc13, kc14, kc15, kc16, kc17, kc18, kc19, kc20, kc21, kc22, kc23, kc24, kc25, kc26, kc27, kc28, kc29, kc30, kc31, kc32, kc33] at q58
          rw [bt_w] at q58; have q58 := (bt_01 s (12 + i)).resolve_left q58
          iterate 7 (refine hX _ ?_; conv => whnf)
          refine hX _ ?_; conv => whnf
          try (simp (disch := omega) only [bg_w_id, Int.toNat_natCast, rw_land, sh_land, not_true_eq_false]; try conv => whnf)
          refine ⟨by first | omega | (simp (disch := omega) only [bg_w_id, Int.toNat_natCast, rw_land, sh_land, not_true_eq_false]; omega), ?_⟩
          iterate 5 (refine hX _ ?_; conv => whnf)
          have e : sm (i + 1) (fun t => bt s (12 + t) * h 120 (3 * t + 2)) = sm i (fun t => bt s (12 + t) * h 120 (3 * t + 2)) + bt s (12 + i) * h 120 (3 * i + 2) := rfl
          rw [e, q58] at ih
          simp only [Int.zero_mul, Int.one_mul, ← Int.add_assoc] at ih
          exact ih
  have l1 : ∀ i, i ≤ 12 → X (4, [oR 115, oI s, oI (sm i (fun i => bt s i * h 118 (7 * i + 4))), oI (i : Int)], [], (bg_SH n, h), (0, 0)) := by
    refine lp_up 12 _ ?_ (fun i hi ih => ?_)
    · iterate 2 (refine hX _ ?_; conv => whnf)
      refine hX _ ?_; conv => whnf
      refine ⟨fun q7 => ?_, fun q7 => ?_⟩
      · try simp (disch := omega) only [bg_w_id, Int.toNat_natCast, rw_land, sh_land, not_true_eq_false, kc0, kc1, kc2, kc3, kc4, kc5, kc6, kc7, kc8, kc9, kc10, kc11, kc12, kc13, kc14, kc15, kc16, kc17, kc18, kc19, kc20, kc21, kc22, kc23, kc24, kc25, kc26, kc27, kc28, kc29, kc30, kc31, kc32, kc33] at q7
        iterate 2 (refine hX _ ?_; conv => whnf)
        have := l2 0 (by omega)
        rw [show sm 0 (fun t => bt s (12 + t) * h 120 (3 * t + 2)) = 0 from rfl, Int.add_zero] at this
        exact this
      · exfalso
        (try simp (disch := omega) only [bg_w_id, Int.toNat_natCast, rw_land, sh_land, not_true_eq_false, kc0, kc1, kc2, kc3, kc4, kc5, kc6, kc7, kc8, kc9, kc10, kc11, kc12, kc13, kc14, kc15, kc16, kc17, kc18, kc19, kc20, kc21, kc22, kc23, kc24, kc25, kc26, kc27, kc28, kc29, kc30, kc31, kc32, kc33] at q7) <;> (omega)
    · iterate 2 (refine hX _ ?_; conv => whnf)
      refine hX _ ?_; conv => whnf
      refine ⟨fun q7 => ?_, fun q7 => ?_⟩
      · exfalso
        (try simp (disch := omega) only [bg_w_id, Int.toNat_natCast, rw_land, sh_land, not_true_eq_false, kc0, kc1, kc2, kc3, kc4, kc5, kc6, kc7, kc8, kc9, kc10, kc11, kc12, kc13, kc14, kc15, kc16, kc17, kc18, kc19, kc20, kc21, kc22, kc23, kc24, kc25, kc26, kc27, kc28, kc29, kc30, kc31, kc32, kc33] at q7) <;> (omega)
      · try simp (disch := omega) only [bg_w_id, Int.toNat_natCast, rw_land, sh_land, not_true_eq_false, kc0, kc1, kc2, kc3, kc4, kc5, kc6, kc7, kc8, kc9, kc10, kc11, kc12, kc13, kc14, kc15, kc16, kc17, kc18, kc19, kc20, kc21, kc22, kc23, kc24, kc25, kc26, kc27, kc28, kc29, kc30, kc31, kc32, kc33] at q7
        iterate 3 (refine hX _ ?_; conv => whnf)
        refine hX _ ?_; conv => whnf
        try simp (disch := omega) only [bg_w_id, Int.toNat_natCast, rw_land, sh_land, not_true_eq_false]
        refine s_has d _ _ _ _ ?_
        conv => whnf
        refine hX _ ?_; conv => whnf
        refine ⟨fun q16 => ?_, fun q16 => ?_⟩
        · try simp (disch := omega) only [bg_w_id, Int.toNat_natCast, rw_land, sh_land, not_true_eq_false, kc0, kc1, kc2, kc3, kc4, kc5, kc6, kc7, kc8, kc9, kc10, kc11, kc12, kc13, kc14, kc15, kc16, kc17, kc18, kc19, kc20, kc21, kc22, kc23, kc24, kc25, kc26, kc27, kc28, kc29, kc30, kc31, kc32, kc33] at q16
          rw [bt_w] at q16
          iterate 5 (refine hX _ ?_; conv => whnf)
          have e : sm (i + 1) (fun i => bt s i * h 118 (7 * i + 4)) = sm i (fun i => bt s i * h 118 (7 * i + 4)) + bt s i * h 118 (7 * i + 4) := rfl
          rw [e, q16] at ih
          simp only [Int.zero_mul, Int.one_mul] at ih
          exact ih
        · try simp (disch := omega) only [bg_w_id, Int.toNat_natCast, rw_land, sh_land, not_true_eq_false, kc0, kc1, kc2, kc3, kc4, kc5, kc6, kc7, kc8, kc9, kc10, kc11, kc12, kc13, kc14, kc15, kc16, kc17, kc18, kc19, kc20, kc21, kc22, kc23, kc24, kc25, kc26, kc27, kc28, kc29, kc30, kc31, kc32, kc33] at q16
          rw [bt_w] at q16; have q16 := (bt_01 s i).resolve_left q16
          iterate 7 (refine hX _ ?_; conv => whnf)
          refine hX _ ?_; conv => whnf
          try (simp (disch := omega) only [bg_w_id, Int.toNat_natCast, rw_land, sh_land, not_true_eq_false]; try conv => whnf)
          refine ⟨by first | omega | (simp (disch := omega) only [bg_w_id, Int.toNat_natCast, rw_land, sh_land, not_true_eq_false]; omega), ?_⟩
          iterate 5 (refine hX _ ?_; conv => whnf)
          have e : sm (i + 1) (fun i => bt s i * h 118 (7 * i + 4)) = sm i (fun i => bt s i * h 118 (7 * i + 4)) + bt s i * h 118 (7 * i + 4) := rfl
          rw [e, q16] at ih
          simp only [Int.zero_mul, Int.one_mul] at ih
          exact ih
  iterate 4 (refine hX _ ?_; conv => whnf)
  exact l1 0 (by omega)
