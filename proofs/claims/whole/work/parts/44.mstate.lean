/-! what the model's calls change of its state -/
theorem s_mcount (d n : Nat) (w : Int) (hw : i32 w) (h : bg_G) (Rt : bg_R) (hR : Rt (some (.inl (if w = 0 then h 117 0 else if w = 1 then h 119 0 else if 2 ≤ w ∧ w ≤ 4 then h 121 (w - 2) else if w = 5 then h 115 0 else if w = 6 then h 115 9 else -1))) (bg_SH n, h)) : bg_Ca bg_MS (d + 1) 186 [vR 115, vI w] (bg_SH n, h) Rt := by
  refine bg_ca (cd := cd_X9_count) rfl rfl ?_
  intro X hX
  refine hX _ ?_; conv => whnf
  refine hX _ ?_; conv => whnf
  refine ⟨fun q1_0 => ?_, fun n1_0 => ?_⟩
  · try simp (disch := omega) only [bg_w_id, Int.toNat_natCast, rw_land, sh_land, not_true_eq_false, kc0, kc1, kc2, kc3, kc4, kc5, kc6, kc7, kc8, kc9, kc10, kc11, kc12, kc13, kc14, kc15, kc16, kc17, kc18, kc19, kc20, kc21, kc22, kc23, kc24, kc25, kc26, kc27, kc28, kc29, kc30, kc31, kc32, kc33] at q1_0
    conv => whnf
    iterate 3 (refine hX _ ?_; conv => whnf)
    refine hX _ ?_; conv => whnf
    try (simp (disch := omega) only [bg_w_id, Int.toNat_natCast, rw_land, sh_land, not_true_eq_false]; try conv => whnf)
    refine ⟨by first | omega | (simp (disch := omega) only [bg_w_id, Int.toNat_natCast, rw_land, sh_land, not_true_eq_false]; omega), ?_⟩
    refine hX _ ?_; conv => whnf
    first
    | (rw [if_pos (by omega)] at hR; exact hR)
    | (rw [if_neg (by omega), if_pos (by omega)] at hR; exact hR)
    | (rw [if_neg (by omega), if_neg (by omega), if_pos (by omega)] at hR; exact hR)
    | (rw [if_neg (by omega), if_neg (by omega), if_neg (by omega), if_pos (by omega)] at hR; exact hR)
    | (rw [if_neg (by omega), if_neg (by omega), if_neg (by omega), if_neg (by omega), if_pos (by omega)] at hR; exact hR)
    | (rw [if_neg (by omega), if_neg (by omega), if_neg (by omega), if_neg (by omega), if_neg (by omega)] at hR; exact hR)
  try simp (disch := omega) only [bg_w_id, Int.toNat_natCast, rw_land, sh_land, not_true_eq_false, kc0, kc1, kc2, kc3, kc4, kc5, kc6, kc7, kc8, kc9, kc10, kc11, kc12, kc13, kc14, kc15, kc16, kc17, kc18, kc19, kc20, kc21, kc22, kc23, kc24, kc25, kc26, kc27, kc28, kc29, kc30, kc31, kc32, kc33] at n1_0
  conv => whnf
  refine ⟨fun q1_1 => ?_, fun n1_1 => ?_⟩
  · try simp (disch := omega) only [bg_w_id, Int.toNat_natCast, rw_land, sh_land, not_true_eq_false, kc0, kc1, kc2, kc3, kc4, kc5, kc6, kc7, kc8, kc9, kc10, kc11, kc12, kc13, kc14, kc15, kc16, kc17, kc18, kc19, kc20, kc21, kc22, kc23, kc24, kc25, kc26, kc27, kc28, kc29, kc30, kc31, kc32, kc33] at q1_1
    conv => whnf
    iterate 3 (refine hX _ ?_; conv => whnf)
    refine hX _ ?_; conv => whnf
    try (simp (disch := omega) only [bg_w_id, Int.toNat_natCast, rw_land, sh_land, not_true_eq_false]; try conv => whnf)
    refine ⟨by first | omega | (simp (disch := omega) only [bg_w_id, Int.toNat_natCast, rw_land, sh_land, not_true_eq_false]; omega), ?_⟩
    refine hX _ ?_; conv => whnf
    first
    | (rw [if_pos (by omega)] at hR; exact hR)
    | (rw [if_neg (by omega), if_pos (by omega)] at hR; exact hR)
    | (rw [if_neg (by omega), if_neg (by omega), if_pos (by omega)] at hR; exact hR)
    | (rw [if_neg (by omega), if_neg (by omega), if_neg (by omega), if_pos (by omega)] at hR; exact hR)
    | (rw [if_neg (by omega), if_neg (by omega), if_neg (by omega), if_neg (by omega), if_pos (by omega)] at hR; exact hR)
    | (rw [if_neg (by omega), if_neg (by omega), if_neg (by omega), if_neg (by omega), if_neg (by omega)] at hR; exact hR)
  try simp (disch := omega) only [bg_w_id, Int.toNat_natCast, rw_land, sh_land, not_true_eq_false, kc0, kc1, kc2, kc3, kc4, kc5, kc6, kc7, kc8, kc9, kc10, kc11, kc12, kc13, kc14, kc15, kc16, kc17, kc18, kc19, kc20, kc21, kc22, kc23, kc24, kc25, kc26, kc27, kc28, kc29, kc30, kc31, kc32, kc33] at n1_1
  conv => whnf
  refine ⟨fun q1_2 => ?_, fun n1_2 => ?_⟩
  · try simp (disch := omega) only [bg_w_id, Int.toNat_natCast, rw_land, sh_land, not_true_eq_false, kc0, kc1, kc2, kc3, kc4, kc5, kc6, kc7, kc8, kc9, kc10, kc11, kc12, kc13, kc14, kc15, kc16, kc17, kc18, kc19, kc20, kc21, kc22, kc23, kc24, kc25, kc26, kc27, kc28, kc29, kc30, kc31, kc32, kc33] at q1_2
    conv => whnf
    iterate 5 (refine hX _ ?_; conv => whnf)
    refine hX _ ?_; conv => whnf
    try (simp (disch := omega) only [bg_w_id, Int.toNat_natCast, rw_land, sh_land, not_true_eq_false]; try conv => whnf)
    refine ⟨by first | omega | (simp (disch := omega) only [bg_w_id, Int.toNat_natCast, rw_land, sh_land, not_true_eq_false]; omega), ?_⟩
    refine hX _ ?_; conv => whnf
    first
    | (rw [if_pos (by omega)] at hR; exact hR)
    | (rw [if_neg (by omega), if_pos (by omega)] at hR; exact hR)
    | (rw [if_neg (by omega), if_neg (by omega), if_pos (by omega)] at hR; exact hR)
    | (rw [if_neg (by omega), if_neg (by omega), if_neg (by omega), if_pos (by omega)] at hR; exact hR)
    | (rw [if_neg (by omega), if_neg (by omega), if_neg (by omega), if_neg (by omega), if_pos (by omega)] at hR; exact hR)
    | (rw [if_neg (by omega), if_neg (by omega), if_neg (by omega), if_neg (by omega), if_neg (by omega)] at hR; exact hR)
  try simp (disch := omega) only [bg_w_id, Int.toNat_natCast, rw_land, sh_land, not_true_eq_false, kc0, kc1, kc2, kc3, kc4, kc5, kc6, kc7, kc8, kc9, kc10, kc11, kc12, kc13, kc14, kc15, kc16, kc17, kc18, kc19, kc20, kc21, kc22, kc23, kc24, kc25, kc26, kc27, kc28, kc29, kc30, kc31, kc32, kc33] at n1_2
  conv => whnf
  refine ⟨fun q1_3 => ?_, fun n1_3 => ?_⟩
  · try simp (disch := omega) only [bg_w_id, Int.toNat_natCast, rw_land, sh_land, not_true_eq_false, kc0, kc1, kc2, kc3, kc4, kc5, kc6, kc7, kc8, kc9, kc10, kc11, kc12, kc13, kc14, kc15, kc16, kc17, kc18, kc19, kc20, kc21, kc22, kc23, kc24, kc25, kc26, kc27, kc28, kc29, kc30, kc31, kc32, kc33] at q1_3
    conv => whnf
    iterate 5 (refine hX _ ?_; conv => whnf)
    refine hX _ ?_; conv => whnf
    try (simp (disch := omega) only [bg_w_id, Int.toNat_natCast, rw_land, sh_land, not_true_eq_false]; try conv => whnf)
    refine ⟨by first | omega | (simp (disch := omega) only [bg_w_id, Int.toNat_natCast, rw_land, sh_land, not_true_eq_false]; omega), ?_⟩
    refine hX _ ?_; conv => whnf
    first
    | (rw [if_pos (by omega)] at hR; exact hR)
    | (rw [if_neg (by omega), if_pos (by omega)] at hR; exact hR)
    | (rw [if_neg (by omega), if_neg (by omega), if_pos (by omega)] at hR; exact hR)
    | (rw [if_neg (by omega), if_neg (by omega), if_neg (by omega), if_pos (by omega)] at hR; exact hR)
    | (rw [if_neg (by omega), if_neg (by omega), if_neg (by omega), if_neg (by omega), if_pos (by omega)] at hR; exact hR)
    | (rw [if_neg (by omega), if_neg (by omega), if_neg (by omega), if_neg (by omega), if_neg (by omega)] at hR; exact hR)
  try simp (disch := omega) only [bg_w_id, Int.toNat_natCast, rw_land, sh_land, not_true_eq_false, kc0, kc1, kc2, kc3, kc4, kc5, kc6, kc7, kc8, kc9, kc10, kc11, kc12, kc13, kc14, kc15, kc16, kc17, kc18, kc19, kc20, kc21, kc22, kc23, kc24, kc25, kc26, kc27, kc28, kc29, kc30, kc31, kc32, kc33] at n1_3
  conv => whnf
  refine ⟨fun q1_4 => ?_, fun n1_4 => ?_⟩
  · try simp (disch := omega) only [bg_w_id, Int.toNat_natCast, rw_land, sh_land, not_true_eq_false, kc0, kc1, kc2, kc3, kc4, kc5, kc6, kc7, kc8, kc9, kc10, kc11, kc12, kc13, kc14, kc15, kc16, kc17, kc18, kc19, kc20, kc21, kc22, kc23, kc24, kc25, kc26, kc27, kc28, kc29, kc30, kc31, kc32, kc33] at q1_4
    conv => whnf
    iterate 5 (refine hX _ ?_; conv => whnf)
    refine hX _ ?_; conv => whnf
    try (simp (disch := omega) only [bg_w_id, Int.toNat_natCast, rw_land, sh_land, not_true_eq_false]; try conv => whnf)
    refine ⟨by first | omega | (simp (disch := omega) only [bg_w_id, Int.toNat_natCast, rw_land, sh_land, not_true_eq_false]; omega), ?_⟩
    refine hX _ ?_; conv => whnf
    first
    | (rw [if_pos (by omega)] at hR; exact hR)
    | (rw [if_neg (by omega), if_pos (by omega)] at hR; exact hR)
    | (rw [if_neg (by omega), if_neg (by omega), if_pos (by omega)] at hR; exact hR)
    | (rw [if_neg (by omega), if_neg (by omega), if_neg (by omega), if_pos (by omega)] at hR; exact hR)
    | (rw [if_neg (by omega), if_neg (by omega), if_neg (by omega), if_neg (by omega), if_pos (by omega)] at hR; exact hR)
    | (rw [if_neg (by omega), if_neg (by omega), if_neg (by omega), if_neg (by omega), if_neg (by omega)] at hR; exact hR)
  try simp (disch := omega) only [bg_w_id, Int.toNat_natCast, rw_land, sh_land, not_true_eq_false, kc0, kc1, kc2, kc3, kc4, kc5, kc6, kc7, kc8, kc9, kc10, kc11, kc12, kc13, kc14, kc15, kc16, kc17, kc18, kc19, kc20, kc21, kc22, kc23, kc24, kc25, kc26, kc27, kc28, kc29, kc30, kc31, kc32, kc33] at n1_4
  conv => whnf
  refine ⟨fun q1_5 => ?_, fun n1_5 => ?_⟩
  · try simp (disch := omega) only [bg_w_id, Int.toNat_natCast, rw_land, sh_land, not_true_eq_false, kc0, kc1, kc2, kc3, kc4, kc5, kc6, kc7, kc8, kc9, kc10, kc11, kc12, kc13, kc14, kc15, kc16, kc17, kc18, kc19, kc20, kc21, kc22, kc23, kc24, kc25, kc26, kc27, kc28, kc29, kc30, kc31, kc32, kc33] at q1_5
    conv => whnf
    iterate 2 (refine hX _ ?_; conv => whnf)
    try simp only [kc0, kc1, kc2, kc3, kc4, kc5, kc6, kc7, kc8, kc9, kc10, kc11, kc12, kc13, kc14, kc15, kc16, kc17, kc18, kc19, kc20, kc21, kc22, kc23, kc24, kc25, kc26, kc27, kc28, kc29, kc30, kc31, kc32, kc33]
    refine hX _ ?_; conv => whnf
    first
    | (rw [if_pos (by omega)] at hR; exact hR)
    | (rw [if_neg (by omega), if_pos (by omega)] at hR; exact hR)
    | (rw [if_neg (by omega), if_neg (by omega), if_pos (by omega)] at hR; exact hR)
    | (rw [if_neg (by omega), if_neg (by omega), if_neg (by omega), if_pos (by omega)] at hR; exact hR)
    | (rw [if_neg (by omega), if_neg (by omega), if_neg (by omega), if_neg (by omega), if_pos (by omega)] at hR; exact hR)
    | (rw [if_neg (by omega), if_neg (by omega), if_neg (by omega), if_neg (by omega), if_neg (by omega)] at hR; exact hR)
  try simp (disch := omega) only [bg_w_id, Int.toNat_natCast, rw_land, sh_land, not_true_eq_false, kc0, kc1, kc2, kc3, kc4, kc5, kc6, kc7, kc8, kc9, kc10, kc11, kc12, kc13, kc14, kc15, kc16, kc17, kc18, kc19, kc20, kc21, kc22, kc23, kc24, kc25, kc26, kc27, kc28, kc29, kc30, kc31, kc32, kc33] at n1_5
  conv => whnf
  refine ⟨fun q1_6 => ?_, fun n1_6 => ?_⟩
  · try simp (disch := omega) only [bg_w_id, Int.toNat_natCast, rw_land, sh_land, not_true_eq_false, kc0, kc1, kc2, kc3, kc4, kc5, kc6, kc7, kc8, kc9, kc10, kc11, kc12, kc13, kc14, kc15, kc16, kc17, kc18, kc19, kc20, kc21, kc22, kc23, kc24, kc25, kc26, kc27, kc28, kc29, kc30, kc31, kc32, kc33] at q1_6
    conv => whnf
    iterate 2 (refine hX _ ?_; conv => whnf)
    try simp only [kc0, kc1, kc2, kc3, kc4, kc5, kc6, kc7, kc8, kc9, kc10, kc11, kc12, kc13, kc14, kc15, kc16, kc17, kc18, kc19, kc20, kc21, kc22, kc23, kc24, kc25, kc26, kc27, kc28, kc29, kc30, kc31, kc32, kc33]
    refine hX _ ?_; conv => whnf
    first
    | (rw [if_pos (by omega)] at hR; exact hR)
    | (rw [if_neg (by omega), if_pos (by omega)] at hR; exact hR)
    | (rw [if_neg (by omega), if_neg (by omega), if_pos (by omega)] at hR; exact hR)
    | (rw [if_neg (by omega), if_neg (by omega), if_neg (by omega), if_pos (by omega)] at hR; exact hR)
    | (rw [if_neg (by omega), if_neg (by omega), if_neg (by omega), if_neg (by omega), if_pos (by omega)] at hR; exact hR)
    | (rw [if_neg (by omega), if_neg (by omega), if_neg (by omega), if_neg (by omega), if_neg (by omega)] at hR; exact hR)
  try simp (disch := omega) only [bg_w_id, Int.toNat_natCast, rw_land, sh_land, not_true_eq_false, kc0, kc1, kc2, kc3, kc4, kc5, kc6, kc7, kc8, kc9, kc10, kc11, kc12, kc13, kc14, kc15, kc16, kc17, kc18, kc19, kc20, kc21, kc22, kc23, kc24, kc25, kc26, kc27, kc28, kc29, kc30, kc31, kc32, kc33] at n1_6
  conv => whnf
  refine hX _ ?_; conv => whnf
  refine hX _ ?_; conv => whnf
  first
  | (rw [if_pos (by omega)] at hR; exact hR)
  | (rw [if_neg (by omega), if_pos (by omega)] at hR; exact hR)
  | (rw [if_neg (by omega), if_neg (by omega), if_pos (by omega)] at hR; exact hR)
  | (rw [if_neg (by omega), if_neg (by omega), if_neg (by omega), if_pos (by omega)] at hR; exact hR)
  | (rw [if_neg (by omega), if_neg (by omega), if_neg (by omega), if_neg (by omega), if_pos (by omega)] at hR; exact hR)
  | (rw [if_neg (by omega), if_neg (by omega), if_neg (by omega), if_neg (by omega), if_neg (by omega)] at hR; exact hR)
theorem s_mwipe (d n : Nat) (h : bg_G) (Rt : bg_R) (hR : Rt (some (.inl (h 115 0))) (bg_SH n, bg_up h 115 0 0)) : bg_Ca bg_MS (d + 1) 118 [vR 115] (bg_SH n, h) Rt := by
  refine bg_ca (cd := cd_X9_wipe) rfl rfl ?_
  intro X hX
  iterate 7 (refine hX _ ?_; conv => whnf)
  try simp only [kc0, kc1, kc2, kc3, kc4, kc5, kc6, kc7, kc8, kc9, kc10, kc11, kc12, kc13, kc14, kc15, kc16, kc17, kc18, kc19, kc20, kc21, kc22, kc23, kc24, kc25, kc26, kc27, kc28, kc29, kc30, kc31, kc32, kc33]
  refine hX _ ?_; conv => whnf
  exact hR
theorem s_mnoLand (d n b : Nat) (hb : b < 4) (h : bg_G) (Rt : bg_R) (hR : ∀ h' : bg_G, (∀ k, k ≠ 117 → k ≠ 119 → k ≠ 121 → h' k = h k) → h' 117 = (fun j : Int => if j = b then 0 else h 117 j) → h' 119 = (fun j : Int => if j = b then 0 else h 119 j) → h' 121 = (fun j : Int => if j = 3 * b then 0 else if j = 3 * b + 1 then 100 else if j = 3 * b + 2 then 0 else h 121 j) → Rt none (bg_SH n, h')) : bg_Ca bg_MS (d + 1) 115 [vR 115, vI b] (bg_SH n, h) Rt := by
  refine bg_ca (cd := cd_X9_noLand) rfl rfl ?_
  intro X hX
  iterate 4 (refine hX _ ?_; conv => whnf)
  refine hX _ ?_; conv => whnf
  try (simp (disch := omega) only [bg_w_id, Int.toNat_natCast, rw_land, sh_land, not_true_eq_false]; try conv => whnf)
  refine ⟨by first | omega | (simp (disch := omega) only [bg_w_id, Int.toNat_natCast, rw_land, sh_land, not_true_eq_false]; omega), ?_⟩
  iterate 4 (refine hX _ ?_; conv => whnf)
  refine hX _ ?_; conv => whnf
  try (simp (disch := omega) only [bg_w_id, Int.toNat_natCast, rw_land, sh_land, not_true_eq_false]; try conv => whnf)
  refine ⟨by first | omega | (simp (disch := omega) only [bg_w_id, Int.toNat_natCast, rw_land, sh_land, not_true_eq_false]; omega), ?_⟩
  iterate 6 (refine hX _ ?_; conv => whnf)
  refine hX _ ?_; conv => whnf
  try (simp (disch := omega) only [bg_w_id, Int.toNat_natCast, rw_land, sh_land, not_true_eq_false]; try conv => whnf)
  refine ⟨by first | omega | (simp (disch := omega) only [bg_w_id, Int.toNat_natCast, rw_land, sh_land, not_true_eq_false]; omega), ?_⟩
  iterate 8 (refine hX _ ?_; conv => whnf)
  refine hX _ ?_; conv => whnf
  try (simp (disch := omega) only [bg_w_id, Int.toNat_natCast, rw_land, sh_land, not_true_eq_false]; try conv => whnf)
  refine ⟨by first | omega | (simp (disch := omega) only [bg_w_id, Int.toNat_natCast, rw_land, sh_land, not_true_eq_false]; omega), ?_⟩
  iterate 8 (refine hX _ ?_; conv => whnf)
  refine hX _ ?_; conv => whnf
  try (simp (disch := omega) only [bg_w_id, Int.toNat_natCast, rw_land, sh_land, not_true_eq_false]; try conv => whnf)
  refine ⟨by first | omega | (simp (disch := omega) only [bg_w_id, Int.toNat_natCast, rw_land, sh_land, not_true_eq_false]; omega), ?_⟩
  refine hX _ ?_; conv => whnf
  refine hR _ (fun k a b c => ?_) ?_ ?_ ?_
  · rw [bg_up_ne c, bg_up_ne c, bg_up_ne c, bg_up_ne b, bg_up_ne a]
  · rw [bg_up_ne (by omega), bg_up_ne (by omega), bg_up_ne (by omega), bg_up_ne (by omega)]
    funext j
    rw [bg_up_at]
  · rw [bg_up_ne (by omega), bg_up_ne (by omega), bg_up_ne (by omega)]
    funext j
    rw [bg_up_at, bg_up_ne (by omega)]
  · funext j
    rw [bg_up_at, bg_up_at, bg_up_at, bg_up_ne (by omega), bg_up_ne (by omega)]
    by_cases c1 : j = 3 * b
    · rw [if_neg (by omega), if_neg (by omega), if_pos c1, if_pos c1]
    · by_cases c2 : j = 3 * b + 1
      · rw [if_neg (by omega), if_pos c2, if_neg c1, if_pos c2]
      · rw [if_neg c1, if_neg c2]
        by_cases c3 : j = 3 * b + 2
        · rw [if_pos c3, if_neg c1, if_neg c2]
        · rw [if_neg c3, if_neg c1, if_neg c2]
theorem s_mnoPlayers (d n : Nat) (h : bg_G) (Rt : bg_R) (hR : ∀ h' : bg_G, (∀ k, k ≠ 122 → k ≠ 123 → k ≠ 124 → k ≠ 125 → h' k = h k) → h' 122 = (fun j : Int => if 0 ≤ j ∧ j < 4 then -1 else h 122 j) → h' 123 = (fun j : Int => if 0 ≤ j ∧ j < 4 then -1 else h 123 j) → h' 124 = (fun j : Int => if 0 ≤ j ∧ j < 12 then 0 else h 124 j) → h' 125 = (fun j : Int => if 0 ≤ j ∧ j < 4 then 0 else h 125 j) → Rt none (bg_SH n, h')) : bg_Ca bg_MS (d + 1) 116 [vR 115] (bg_SH n, h) Rt := by
  refine bg_ca (cd := cd_X9_noPlayers) rfl rfl ?_
  intro X hX
  have l2 : ∀ i : Nat, i ≤ 12 → ∀ h' : bg_G, (∀ k, k ≠ 122 → k ≠ 123 → k ≠ 124 → k ≠ 125 → h' k = h k) → h' 122 = (fun j : Int => if 0 ≤ j ∧ j < 4 then -1 else h 122 j) → h' 123 = (fun j : Int => if 0 ≤ j ∧ j < 4 then -1 else h 123 j) → h' 124 = (fun j : Int => if 0 ≤ j ∧ j < i then 0 else h 124 j) → h' 125 = (fun j : Int => if 0 ≤ j ∧ j < 4 then 0 else h 125 j) → X (36, [oR 115, oI (i : Int)], [], (bg_SH n, h'), (0, 0)) := by
    refine lp_up 12 _ ?_ (fun i hi ih => ?_)
    · intro h' f a b c e
      iterate 2 (refine hX _ ?_; conv => whnf)
      refine hX _ ?_; conv => whnf
      refine ⟨fun q39 => ?_, fun q39 => ?_⟩
      · try simp (disch := omega) only [bg_w_id, Int.toNat_natCast, rw_land, sh_land, not_true_eq_false, kc0, kc1, kc2, kc3, kc4, kc5, kc6, kc7, kc8, kc9, kc10, kc11, kc12, kc13, kc14, kc15, kc16, kc17, kc18, kc19, kc20, kc21, kc22, kc23, kc24, kc25, kc26, kc27, kc28, kc29, kc30, kc31, kc32, kc33] at q39
        refine hX _ ?_; conv => whnf
        exact hR h' f a b c e
      · exfalso
        (try simp (disch := omega) only [bg_w_id, Int.toNat_natCast, rw_land, sh_land, not_true_eq_false, kc0, kc1, kc2, kc3, kc4, kc5, kc6, kc7, kc8, kc9, kc10, kc11, kc12, kc13, kc14, kc15, kc16, kc17, kc18, kc19, kc20, kc21, kc22, kc23, kc24, kc25, kc26, kc27, kc28, kc29, kc30, kc31, kc32, kc33] at q39) <;> (omega)
    · intro h' f a b c e
      iterate 2 (refine hX _ ?_; conv => whnf)
      refine hX _ ?_; conv => whnf
      refine ⟨fun q39 => ?_, fun q39 => ?_⟩
      · exfalso
        (try simp (disch := omega) only [bg_w_id, Int.toNat_natCast, rw_land, sh_land, not_true_eq_false, kc0, kc1, kc2, kc3, kc4, kc5, kc6, kc7, kc8, kc9, kc10, kc11, kc12, kc13, kc14, kc15, kc16, kc17, kc18, kc19, kc20, kc21, kc22, kc23, kc24, kc25, kc26, kc27, kc28, kc29, kc30, kc31, kc32, kc33] at q39) <;> (omega)
      · try simp (disch := omega) only [bg_w_id, Int.toNat_natCast, rw_land, sh_land, not_true_eq_false, kc0, kc1, kc2, kc3, kc4, kc5, kc6, kc7, kc8, kc9, kc10, kc11, kc12, kc13, kc14, kc15, kc16, kc17, kc18, kc19, kc20, kc21, kc22, kc23, kc24, kc25, kc26, kc27, kc28, kc29, kc30, kc31, kc32, kc33] at q39
        iterate 4 (refine hX _ ?_; conv => whnf)
        refine hX _ ?_; conv => whnf
        try (simp (disch := omega) only [bg_w_id, Int.toNat_natCast, rw_land, sh_land, not_true_eq_false]; try conv => whnf)
        refine ⟨by first | omega | (simp (disch := omega) only [bg_w_id, Int.toNat_natCast, rw_land, sh_land, not_true_eq_false]; omega), ?_⟩
        iterate 2 (refine hX _ ?_; conv => whnf)
        refine ih _ (fun k k1 k2 k3 k4 => by rw [bg_up_ne k3]; exact f k k1 k2 k3 k4) (by rw [bg_up_ne (by omega)]; exact a) (by rw [bg_up_ne (by omega)]; exact b) ?_ (by rw [bg_up_ne (by omega)]; exact e)
        funext j
        rw [bg_up_at, c]
        by_cases c1 : j = i
        · rw [if_pos c1, if_pos (by omega)]
        · rw [if_neg c1]
          by_cases c2 : 0 ≤ j ∧ j < i
          · show (if 0 ≤ j ∧ j < (i : Int) then (0 : Int) else h 124 j) = _
            rw [if_pos c2, if_pos (by omega)]
          · show (if 0 ≤ j ∧ j < (i : Int) then (0 : Int) else h 124 j) = _
            rw [if_neg c2, if_neg (by omega)]
  have l1 : ∀ i : Nat, i ≤ 4 → ∀ h' : bg_G, (∀ k, k ≠ 122 → k ≠ 123 → k ≠ 124 → k ≠ 125 → h' k = h k) → h' 122 = (fun j : Int => if 0 ≤ j ∧ j < i then -1 else h 122 j) → h' 123 = (fun j : Int => if 0 ≤ j ∧ j < i then -1 else h 123 j) → h' 124 = h 124 → h' 125 = (fun j : Int => if 0 ≤ j ∧ j < i then 0 else h 125 j) → X (2, [oR 115, oI (i : Int)], [], (bg_SH n, h'), (0, 0)) := by
    refine lp_up 4 _ ?_ (fun i hi ih => ?_)
    · intro h' f a b c e
      iterate 2 (refine hX _ ?_; conv => whnf)
      refine hX _ ?_; conv => whnf
      refine ⟨fun q4 => ?_, fun q4 => ?_⟩
      · try simp (disch := omega) only [bg_w_id, Int.toNat_natCast, rw_land, sh_land, not_true_eq_false, kc0, kc1, kc2, kc3, kc4, kc5, kc6, kc7, kc8, kc9, kc10, kc11, kc12, kc13, kc14, kc15, kc16, kc17, kc18, kc19, kc20, kc21, kc22, kc23, kc24, kc25, kc26, kc27, kc28, kc29, kc30, kc31, kc32, kc33] at q4
        iterate 2 (refine hX _ ?_; conv => whnf)
        refine l2 0 (by omega) h' f a b ?_ e
        rw [c]
        funext j
        rw [if_neg (by omega)]
      · exfalso
        (try simp (disch := omega) only [bg_w_id, Int.toNat_natCast, rw_land, sh_land, not_true_eq_false, kc0, kc1, kc2, kc3, kc4, kc5, kc6, kc7, kc8, kc9, kc10, kc11, kc12, kc13, kc14, kc15, kc16, kc17, kc18, kc19, kc20, kc21, kc22, kc23, kc24, kc25, kc26, kc27, kc28, kc29, kc30, kc31, kc32, kc33] at q4) <;> (omega)
    · intro h' f a b c e
      have stp : ∀ (g g' : Int → Int) (x : Int), g' = (fun j : Int => if 0 ≤ j ∧ j < i then x else g j) → (fun j : Int => if j = (i : Int) then x else g' j) = (fun j : Int => if 0 ≤ j ∧ j < ((i + 1 : Nat) : Int) then x else g j) := by
        intro g g' x e
        funext j
        show (if j = (i : Int) then x else g' j) = _
        rw [e]
        by_cases c1 : j = i
        · rw [if_pos c1, if_pos (by omega)]
        · rw [if_neg c1]
          by_cases c2 : 0 ≤ j ∧ j < i
          · show (if 0 ≤ j ∧ j < (i : Int) then x else g j) = _
            rw [if_pos c2, if_pos (by omega)]
          · show (if 0 ≤ j ∧ j < (i : Int) then x else g j) = _
            rw [if_neg c2, if_neg (by omega)]
      iterate 2 (refine hX _ ?_; conv => whnf)
      refine hX _ ?_; conv => whnf
      refine ⟨fun q4 => ?_, fun q4 => ?_⟩
      · exfalso
        (try simp (disch := omega) only [bg_w_id, Int.toNat_natCast, rw_land, sh_land, not_true_eq_false, kc0, kc1, kc2, kc3, kc4, kc5, kc6, kc7, kc8, kc9, kc10, kc11, kc12, kc13, kc14, kc15, kc16, kc17, kc18, kc19, kc20, kc21, kc22, kc23, kc24, kc25, kc26, kc27, kc28, kc29, kc30, kc31, kc32, kc33] at q4) <;> (omega)
      · try simp (disch := omega) only [bg_w_id, Int.toNat_natCast, rw_land, sh_land, not_true_eq_false, kc0, kc1, kc2, kc3, kc4, kc5, kc6, kc7, kc8, kc9, kc10, kc11, kc12, kc13, kc14, kc15, kc16, kc17, kc18, kc19, kc20, kc21, kc22, kc23, kc24, kc25, kc26, kc27, kc28, kc29, kc30, kc31, kc32, kc33] at q4
        iterate 4 (refine hX _ ?_; conv => whnf)
        refine hX _ ?_; conv => whnf
        try (simp (disch := omega) only [bg_w_id, Int.toNat_natCast, rw_land, sh_land, not_true_eq_false]; try conv => whnf)
        refine ⟨by first | omega | (simp (disch := omega) only [bg_w_id, Int.toNat_natCast, rw_land, sh_land, not_true_eq_false]; omega), ?_⟩
        iterate 4 (refine hX _ ?_; conv => whnf)
        refine hX _ ?_; conv => whnf
        try (simp (disch := omega) only [bg_w_id, Int.toNat_natCast, rw_land, sh_land, not_true_eq_false]; try conv => whnf)
        refine ⟨by first | omega | (simp (disch := omega) only [bg_w_id, Int.toNat_natCast, rw_land, sh_land, not_true_eq_false]; omega), ?_⟩
        iterate 4 (refine hX _ ?_; conv => whnf)
        refine hX _ ?_; conv => whnf
        try (simp (disch := omega) only [bg_w_id, Int.toNat_natCast, rw_land, sh_land, not_true_eq_false]; try conv => whnf)
        refine ⟨by first | omega | (simp (disch := omega) only [bg_w_id, Int.toNat_natCast, rw_land, sh_land, not_true_eq_false]; omega), ?_⟩
        iterate 2 (refine hX _ ?_; conv => whnf)
        refine ih _ (fun k k1 k2 k3 k4 => by rw [bg_up_ne k4, bg_up_ne k2, bg_up_ne k1]; exact f k k1 k2 k3 k4) ?_ ?_ (by rw [bg_up_ne (by omega), bg_up_ne (by omega), bg_up_ne (by omega)]; exact c) ?_
        · rw [← stp _ _ _ a, bg_up_ne (by omega), bg_up_ne (by omega)]
          funext j
          rw [bg_up_at]
        · rw [← stp _ _ _ b, bg_up_ne (by omega)]
          funext j
          rw [bg_up_at, bg_up_ne (by omega)]
        · rw [← stp _ _ _ e]
          funext j
          rw [bg_up_at, bg_up_ne (by omega), bg_up_ne (by omega)]
  iterate 2 (refine hX _ ?_; conv => whnf)
  refine l1 0 (by omega) h (fun _ _ _ _ _ => rfl) ?_ ?_ rfl ?_ <;> (funext j; rw [if_neg (by omega)])
/-- book a copied over book b, books of w numbers -/
def cp (w a b k : Nat) (f : Int → Int) : Int → Int := fun j => if (w * b : Nat) ≤ j ∧ j < (w * b : Nat) + (k : Int) then f (j - (w * b : Nat) + (w * a : Nat)) else f j
theorem cp_0 (w a b : Nat) (f : Int → Int) : cp w a b 0 f = f := by
  funext j
  unfold cp
  rw [if_neg (by omega)]
theorem cp_s {w a b k : Nat} {f g : Int → Int} {x : Int} (hg : g = cp w a b k f) (hx : x = f ((w * a : Nat) + (k : Int))) : (fun j : Int => if j = (w * b : Nat) + (k : Int) then x else g j) = cp w a b (k + 1) f := by
  funext j
  rw [hg]
  unfold cp
  by_cases c1 : j = (w * b : Nat) + (k : Int)
  · rw [if_pos c1, if_pos (by omega), hx]
    congr 1
    omega
  · rw [if_neg c1]
    by_cases c2 : ((w * b : Nat) : Int) ≤ j ∧ j < (w * b : Nat) + (k : Int)
    · rw [if_pos c2, if_pos (by omega)]
    · rw [if_neg c2, if_neg (by omega)]
theorem cp_at {w a b k : Nat} {f : Int → Int} (hab : w * a + w ≤ w * b ∨ w * b + w ≤ w * a) (hk : k < w) : cp w a b k f ((w * a : Nat) + (k : Int)) = f ((w * a : Nat) + (k : Int)) := by
  unfold cp
  rw [if_neg (by omega)]
theorem s_mcopyLand (d n a b : Nat) (ha : a < 4) (hb : b < 4) (hab : a ≠ b) (h : bg_G) (Rt : bg_R) (hR : ∀ h' : bg_G, (∀ k, k ≠ 115 → k ≠ 117 → k ≠ 118 → k ≠ 119 → k ≠ 120 → k ≠ 121 → h' k = h k) → (∀ j, j ≠ 12 → j ≠ 14 → h' 115 j = h 115 j) → h' 115 12 = 0 → h' 115 14 = 0 → h' 117 = cp 1 a b 1 (h 117) → h' 118 = cp 84 a b 84 (h 118) → h' 119 = cp 1 a b 1 (h 119) → h' 120 = cp 9 a b 9 (h 120) → h' 121 = cp 3 a b 3 (h 121) → Rt none (bg_SH n, h')) : bg_Ca bg_MS (d + 1) 126 [vR 115, vI a, vI b] (bg_SH n, h) Rt := by
  refine bg_ca (cd := cd_X9_copyLand) rfl rfl ?_
  intro X hX
  have l3 : ∀ i : Nat, i ≤ 3 → ∀ h' : bg_G, (∀ k, k ≠ 117 → k ≠ 118 → k ≠ 119 → k ≠ 120 → k ≠ 121 → h' k = h k) → h' 117 = cp 1 a b 1 (h 117) → h' 118 = cp 84 a b 84 (h 118) → h' 119 = cp 1 a b 1 (h 119) → h' 120 = cp 9 a b 9 (h 120) → h' 121 = cp 3 a b i (h 121) → X (98, [oR 115, oI a, oI b, oI (i : Int)], [], (bg_SH n, h'), (0, 0)) := by
    refine lp_up 3 _ ?_ (fun i hi ih => ?_)
    · intro h' f f6 f7 f8 f9 f0
      iterate 2 (refine hX _ ?_; conv => whnf)
      refine hX _ ?_; conv => whnf
      refine ⟨fun q100 => ?_, fun q100 => ?_⟩
      · try simp (disch := omega) only [bg_w_id, Int.toNat_natCast, rw_land, sh_land, not_true_eq_false, kc0, kc1, kc2, kc3, kc4, kc5, kc6, kc7, kc8, kc9, kc10, kc11, kc12, kc13, kc14, kc15, kc16, kc17, kc18, kc19, kc20, kc21, kc22, kc23, kc24, kc25, kc26, kc27, kc28, kc29, kc30, kc31, kc32, kc33] at q100
        iterate 2 (refine hX _ ?_; conv => whnf)
        refine hX _ ?_; conv => whnf
        refine ⟨by first | exact Or.inr rfl | exact Or.inl rfl | omega, ?_⟩
        iterate 2 (refine hX _ ?_; conv => whnf)
        refine hX _ ?_; conv => whnf
        refine ⟨by first | exact Or.inr rfl | exact Or.inl rfl | omega, ?_⟩
        try simp only [kc0, kc1, kc2, kc3, kc4, kc5, kc6, kc7, kc8, kc9, kc10, kc11, kc12, kc13, kc14, kc15, kc16, kc17, kc18, kc19, kc20, kc21, kc22, kc23, kc24, kc25, kc26, kc27, kc28, kc29, kc30, kc31, kc32, kc33]
        refine hX _ ?_; conv => whnf
        refine hR _ (fun k k4 k6 k7 k8 k9 k0 => ?_) (fun j a b => ?_) ?_ ?_ ?_ ?_ ?_ ?_ ?_
        · rw [bg_up_ne k4, bg_up_ne k4]; exact f k k6 k7 k8 k9 k0
        · rw [bg_up_nj b, bg_up_nj a, f 115 (by omega) (by omega) (by omega) (by omega) (by omega)]
        · rw [bg_up_nj (by omega), bg_up_self]
        · rw [bg_up_self]
        · rw [bg_up_ne (by omega), bg_up_ne (by omega)]; exact f6
        · rw [bg_up_ne (by omega), bg_up_ne (by omega)]; exact f7
        · rw [bg_up_ne (by omega), bg_up_ne (by omega)]; exact f8
        · rw [bg_up_ne (by omega), bg_up_ne (by omega)]; exact f9
        · rw [bg_up_ne (by omega), bg_up_ne (by omega)]; exact f0
      · exfalso
        (try simp (disch := omega) only [bg_w_id, Int.toNat_natCast, rw_land, sh_land, not_true_eq_false, kc0, kc1, kc2, kc3, kc4, kc5, kc6, kc7, kc8, kc9, kc10, kc11, kc12, kc13, kc14, kc15, kc16, kc17, kc18, kc19, kc20, kc21, kc22, kc23, kc24, kc25, kc26, kc27, kc28, kc29, kc30, kc31, kc32, kc33] at q100) <;> (omega)
    · intro h' f f6 f7 f8 f9 f0
      iterate 2 (refine hX _ ?_; conv => whnf)
      refine hX _ ?_; conv => whnf
      refine ⟨fun q100 => ?_, fun q100 => ?_⟩
      · exfalso
        (try simp (disch := omega) only [bg_w_id, Int.toNat_natCast, rw_land, sh_land, not_true_eq_false, kc0, kc1, kc2, kc3, kc4, kc5, kc6, kc7, kc8, kc9, kc10, kc11, kc12, kc13, kc14, kc15, kc16, kc17, kc18, kc19, kc20, kc21, kc22, kc23, kc24, kc25, kc26, kc27, kc28, kc29, kc30, kc31, kc32, kc33] at q100) <;> (omega)
      · try simp (disch := omega) only [bg_w_id, Int.toNat_natCast, rw_land, sh_land, not_true_eq_false, kc0, kc1, kc2, kc3, kc4, kc5, kc6, kc7, kc8, kc9, kc10, kc11, kc12, kc13, kc14, kc15, kc16, kc17, kc18, kc19, kc20, kc21, kc22, kc23, kc24, kc25, kc26, kc27, kc28, kc29, kc30, kc31, kc32, kc33] at q100
        iterate 14 (refine hX _ ?_; conv => whnf)
        refine hX _ ?_; conv => whnf
        try (simp (disch := omega) only [bg_w_id, Int.toNat_natCast, rw_land, sh_land, not_true_eq_false]; try conv => whnf)
        refine ⟨by first | omega | (simp (disch := omega) only [bg_w_id, Int.toNat_natCast, rw_land, sh_land, not_true_eq_false]; omega), ?_⟩
        refine hX _ ?_; conv => whnf
        try (simp (disch := omega) only [bg_w_id, Int.toNat_natCast, rw_land, sh_land, not_true_eq_false]; try conv => whnf)
        refine ⟨by first | omega | (simp (disch := omega) only [bg_w_id, Int.toNat_natCast, rw_land, sh_land, not_true_eq_false]; omega), ?_⟩
        iterate 2 (refine hX _ ?_; conv => whnf)
        refine ih _ (fun k k6 k7 k8 k9 k0 => by rw [bg_up_ne k0]; exact f k k6 k7 k8 k9 k0) (by rw [bg_up_ne (by omega)]; exact f6) (by rw [bg_up_ne (by omega)]; exact f7) (by rw [bg_up_ne (by omega)]; exact f8) (by rw [bg_up_ne (by omega)]; exact f9) ?_
        rw [← cp_s f0 (x := h' 121 (3 * a + i)) (by rw [f0]; exact cp_at (by omega) (by omega))]
        funext j
        rw [bg_up_at]
        rfl
  have l2 : ∀ i : Nat, i ≤ 9 → ∀ h' : bg_G, (∀ k, k ≠ 117 → k ≠ 118 → k ≠ 119 → k ≠ 120 → h' k = h k) → h' 117 = cp 1 a b 1 (h 117) → h' 118 = cp 84 a b 84 (h 118) → h' 119 = cp 1 a b 1 (h 119) → h' 120 = cp 9 a b i (h 120) → X (62, [oR 115, oI a, oI b, oI (i : Int)], [], (bg_SH n, h'), (0, 0)) := by
    refine lp_up 9 _ ?_ (fun i hi ih => ?_)
    · intro h' f f6 f7 f8 f9
      iterate 2 (refine hX _ ?_; conv => whnf)
      refine hX _ ?_; conv => whnf
      refine ⟨fun q65 => ?_, fun q65 => ?_⟩
      · try simp (disch := omega) only [bg_w_id, Int.toNat_natCast, rw_land, sh_land, not_true_eq_false, kc0, kc1, kc2, kc3, kc4, kc5, kc6, kc7, kc8, kc9, kc10, kc11, kc12, kc13, kc14, kc15, kc16, kc17, kc18, kc19, kc20, kc21, kc22, kc23, kc24, kc25, kc26, kc27, kc28, kc29, kc30, kc31, kc32, kc33] at q65
        iterate 2 (refine hX _ ?_; conv => whnf)
        exact l3 0 (by omega) h' (fun k k6 k7 k8 k9 _ => f k k6 k7 k8 k9) f6 f7 f8 f9 (by rw [cp_0, f 121 (by omega) (by omega) (by omega) (by omega)])
      · exfalso
        (try simp (disch := omega) only [bg_w_id, Int.toNat_natCast, rw_land, sh_land, not_true_eq_false, kc0, kc1, kc2, kc3, kc4, kc5, kc6, kc7, kc8, kc9, kc10, kc11, kc12, kc13, kc14, kc15, kc16, kc17, kc18, kc19, kc20, kc21, kc22, kc23, kc24, kc25, kc26, kc27, kc28, kc29, kc30, kc31, kc32, kc33] at q65) <;> (omega)
    · intro h' f f6 f7 f8 f9
      iterate 2 (refine hX _ ?_; conv => whnf)
      refine hX _ ?_; conv => whnf
      refine ⟨fun q65 => ?_, fun q65 => ?_⟩
      · exfalso
        (try simp (disch := omega) only [bg_w_id, Int.toNat_natCast, rw_land, sh_land, not_true_eq_false, kc0, kc1, kc2, kc3, kc4, kc5, kc6, kc7, kc8, kc9, kc10, kc11, kc12, kc13, kc14, kc15, kc16, kc17, kc18, kc19, kc20, kc21, kc22, kc23, kc24, kc25, kc26, kc27, kc28, kc29, kc30, kc31, kc32, kc33] at q65) <;> (omega)
      · try simp (disch := omega) only [bg_w_id, Int.toNat_natCast, rw_land, sh_land, not_true_eq_false, kc0, kc1, kc2, kc3, kc4, kc5, kc6, kc7, kc8, kc9, kc10, kc11, kc12, kc13, kc14, kc15, kc16, kc17, kc18, kc19, kc20, kc21, kc22, kc23, kc24, kc25, kc26, kc27, kc28, kc29, kc30, kc31, kc32, kc33] at q65
        iterate 14 (refine hX _ ?_; conv => whnf)
        refine hX _ ?_; conv => whnf
        try (simp (disch := omega) only [bg_w_id, Int.toNat_natCast, rw_land, sh_land, not_true_eq_false]; try conv => whnf)
        refine ⟨by first | omega | (simp (disch := omega) only [bg_w_id, Int.toNat_natCast, rw_land, sh_land, not_true_eq_false]; omega), ?_⟩
        refine hX _ ?_; conv => whnf
        try (simp (disch := omega) only [bg_w_id, Int.toNat_natCast, rw_land, sh_land, not_true_eq_false]; try conv => whnf)
        refine ⟨by first | omega | (simp (disch := omega) only [bg_w_id, Int.toNat_natCast, rw_land, sh_land, not_true_eq_false]; omega), ?_⟩
        iterate 2 (refine hX _ ?_; conv => whnf)
        refine ih _ (fun k k6 k7 k8 k9 => by rw [bg_up_ne k9]; exact f k k6 k7 k8 k9) (by rw [bg_up_ne (by omega)]; exact f6) (by rw [bg_up_ne (by omega)]; exact f7) (by rw [bg_up_ne (by omega)]; exact f8) ?_
        rw [← cp_s f9 (x := h' 120 (9 * a + i)) (by rw [f9]; exact cp_at (by omega) (by omega))]
        funext j
        rw [bg_up_at]
        rfl
  have l1 : ∀ i : Nat, i ≤ 84 → ∀ h' : bg_G, (∀ k, k ≠ 117 → k ≠ 118 → h' k = h k) → h' 117 = cp 1 a b 1 (h 117) → h' 118 = cp 84 a b i (h 118) → X (14, [oR 115, oI a, oI b, oI (i : Int)], [], (bg_SH n, h'), (0, 0)) := by
    refine lp_up 84 _ ?_ (fun i hi ih => ?_)
    · intro h' f f6 f7
      have e118 := f 119 (by omega) (by omega)
      iterate 2 (refine hX _ ?_; conv => whnf)
      refine hX _ ?_; conv => whnf
      refine ⟨fun q17 => ?_, fun q17 => ?_⟩
      · try simp (disch := omega) only [bg_w_id, Int.toNat_natCast, rw_land, sh_land, not_true_eq_false, kc0, kc1, kc2, kc3, kc4, kc5, kc6, kc7, kc8, kc9, kc10, kc11, kc12, kc13, kc14, kc15, kc16, kc17, kc18, kc19, kc20, kc21, kc22, kc23, kc24, kc25, kc26, kc27, kc28, kc29, kc30, kc31, kc32, kc33] at q17
        iterate 6 (refine hX _ ?_; conv => whnf)
        refine hX _ ?_; conv => whnf
        try (simp (disch := omega) only [bg_w_id, Int.toNat_natCast, rw_land, sh_land, not_true_eq_false]; try conv => whnf)
        refine ⟨by first | omega | (simp (disch := omega) only [bg_w_id, Int.toNat_natCast, rw_land, sh_land, not_true_eq_false]; omega), ?_⟩
        refine hX _ ?_; conv => whnf
        try (simp (disch := omega) only [bg_w_id, Int.toNat_natCast, rw_land, sh_land, not_true_eq_false]; try conv => whnf)
        refine ⟨by first | omega | (simp (disch := omega) only [bg_w_id, Int.toNat_natCast, rw_land, sh_land, not_true_eq_false]; omega), ?_⟩
        iterate 2 (refine hX _ ?_; conv => whnf)
        refine l2 0 (by omega) _ (fun k k6 k7 k8 _ => by rw [bg_up_ne k8]; exact f k k6 k7) (by rw [bg_up_ne (by omega)]; exact f6) (by rw [bg_up_ne (by omega)]; exact f7) ?_ (by rw [cp_0, bg_up_ne (by omega), f 120 (by omega) (by omega)])
        rw [← cp_s (cp_0 1 a b (h 119)).symm (x := h 119 a) (by congr 1; omega)]
        funext j
        rw [bg_up_at, e118, show ((1 * b : Nat) : Int) + ((0 : Nat) : Int) = b by omega]
      · exfalso
        (try simp (disch := omega) only [bg_w_id, Int.toNat_natCast, rw_land, sh_land, not_true_eq_false, kc0, kc1, kc2, kc3, kc4, kc5, kc6, kc7, kc8, kc9, kc10, kc11, kc12, kc13, kc14, kc15, kc16, kc17, kc18, kc19, kc20, kc21, kc22, kc23, kc24, kc25, kc26, kc27, kc28, kc29, kc30, kc31, kc32, kc33] at q17) <;> (omega)
    · intro h' f f6 f7
      iterate 2 (refine hX _ ?_; conv => whnf)
      refine hX _ ?_; conv => whnf
      refine ⟨fun q17 => ?_, fun q17 => ?_⟩
      · exfalso
        (try simp (disch := omega) only [bg_w_id, Int.toNat_natCast, rw_land, sh_land, not_true_eq_false, kc0, kc1, kc2, kc3, kc4, kc5, kc6, kc7, kc8, kc9, kc10, kc11, kc12, kc13, kc14, kc15, kc16, kc17, kc18, kc19, kc20, kc21, kc22, kc23, kc24, kc25, kc26, kc27, kc28, kc29, kc30, kc31, kc32, kc33] at q17) <;> (omega)
      · try simp (disch := omega) only [bg_w_id, Int.toNat_natCast, rw_land, sh_land, not_true_eq_false, kc0, kc1, kc2, kc3, kc4, kc5, kc6, kc7, kc8, kc9, kc10, kc11, kc12, kc13, kc14, kc15, kc16, kc17, kc18, kc19, kc20, kc21, kc22, kc23, kc24, kc25, kc26, kc27, kc28, kc29, kc30, kc31, kc32, kc33] at q17
        iterate 14 (refine hX _ ?_; conv => whnf)
        refine hX _ ?_; conv => whnf
        try (simp (disch := omega) only [bg_w_id, Int.toNat_natCast, rw_land, sh_land, not_true_eq_false]; try conv => whnf)
        refine ⟨by first | omega | (simp (disch := omega) only [bg_w_id, Int.toNat_natCast, rw_land, sh_land, not_true_eq_false]; omega), ?_⟩
        refine hX _ ?_; conv => whnf
        try (simp (disch := omega) only [bg_w_id, Int.toNat_natCast, rw_land, sh_land, not_true_eq_false]; try conv => whnf)
        refine ⟨by first | omega | (simp (disch := omega) only [bg_w_id, Int.toNat_natCast, rw_land, sh_land, not_true_eq_false]; omega), ?_⟩
        iterate 2 (refine hX _ ?_; conv => whnf)
        refine ih _ (fun k k6 k7 => by rw [bg_up_ne k7]; exact f k k6 k7) (by rw [bg_up_ne (by omega)]; exact f6) ?_
        rw [← cp_s f7 (x := h' 118 (84 * a + i)) (by rw [f7]; exact cp_at (by omega) (by omega))]
        funext j
        rw [bg_up_at]
        rfl
  iterate 6 (refine hX _ ?_; conv => whnf)
  refine hX _ ?_; conv => whnf
  try (simp (disch := omega) only [bg_w_id, Int.toNat_natCast, rw_land, sh_land, not_true_eq_false]; try conv => whnf)
  refine ⟨by first | omega | (simp (disch := omega) only [bg_w_id, Int.toNat_natCast, rw_land, sh_land, not_true_eq_false]; omega), ?_⟩
  refine hX _ ?_; conv => whnf
  try (simp (disch := omega) only [bg_w_id, Int.toNat_natCast, rw_land, sh_land, not_true_eq_false]; try conv => whnf)
  refine ⟨by first | omega | (simp (disch := omega) only [bg_w_id, Int.toNat_natCast, rw_land, sh_land, not_true_eq_false]; omega), ?_⟩
  iterate 2 (refine hX _ ?_; conv => whnf)
  refine l1 0 (by omega) _ (fun k k6 k7 => by rw [bg_up_ne k6]) ?_ (by rw [cp_0, bg_up_ne (by omega)])
  rw [← cp_s (cp_0 1 a b (h 117)).symm (x := h 117 a) (by congr 1; omega)]
  funext j
  rw [bg_up_at, show ((1 * b : Nat) : Int) + ((0 : Nat) : Int) = b by omega]
theorem s_mcopy (d n a b : Nat) (ha : a < 3) (hb : b < 3) (hab : a ≠ b) (h : bg_G) (Rt : bg_R) (hR : ∀ h' : bg_G, (∀ k, k ≠ 115 → k ≠ 117 → k ≠ 118 → k ≠ 119 → k ≠ 120 → k ≠ 121 → k ≠ 122 → k ≠ 123 → h' k = h k) → (∀ j, j ≠ 12 → j ≠ 14 → h' 115 j = h 115 j) → h' 115 12 = 0 → h' 115 14 = 0 → h' 117 = cp 1 a b 1 (h 117) → h' 118 = cp 84 a b 84 (h 118) → h' 119 = cp 1 a b 1 (h 119) → h' 120 = cp 9 a b 9 (h 120) → h' 121 = cp 3 a b 3 (h 121) → h' 122 = cp 4 a b 4 (h 122) → h' 123 = cp 4 a b 4 (h 123) → Rt none (bg_SH n, h')) : bg_Ca bg_MS (d + 2) 183 [vR 115, vI a, vI b] (bg_SH n, h) Rt := by
  refine bg_ca (cd := cd_X9_copy) rfl rfl ?_
  intro X hX
  have l1 : ∀ (h1 : bg_G), (∀ k, k ≠ 115 → k ≠ 117 → k ≠ 118 → k ≠ 119 → k ≠ 120 → k ≠ 121 → h1 k = h k) → (∀ j, j ≠ 12 → j ≠ 14 → h1 115 j = h 115 j) → h1 115 12 = 0 → h1 115 14 = 0 → h1 117 = cp 1 a b 1 (h 117) → h1 118 = cp 84 a b 84 (h 118) → h1 119 = cp 1 a b 1 (h 119) → h1 120 = cp 9 a b 9 (h 120) → h1 121 = cp 3 a b 3 (h 121) → ∀ i : Nat, i ≤ 4 → ∀ h' : bg_G, (∀ k, k ≠ 122 → k ≠ 123 → h' k = h1 k) → h' 122 = cp 4 a b i (h 122) → h' 123 = cp 4 a b i (h 123) → X (8, [oR 115, oI a, oI b, oI (i : Int)], [], (bg_SH n, h'), (0, 0)) := by
    intro h1 g1 g2 g3 g4 g5 g6 g7 g8 g9
    refine lp_up 4 _ ?_ (fun i hi ih => ?_)
    · intro h' f f1 f2
      have e : ∀ k, k ≠ 122 → k ≠ 123 → h' k = h1 k := f
      iterate 2 (refine hX _ ?_; conv => whnf)
      refine hX _ ?_; conv => whnf
      refine ⟨fun q10 => ?_, fun q10 => ?_⟩
      · try simp (disch := omega) only [bg_w_id, Int.toNat_natCast, rw_land, sh_land, not_true_eq_false, kc0, kc1, kc2, kc3, kc4, kc5, kc6, kc7, kc8, kc9, kc10, kc11, kc12, kc13, kc14, kc15, kc16, kc17, kc18, kc19, kc20, kc21, kc22, kc23, kc24, kc25, kc26, kc27, kc28, kc29, kc30, kc31, kc32, kc33] at q10
        refine hX _ ?_; conv => whnf
        refine hR h' (fun k k4 k6 k7 k8 k9 k0 k1 k2 => by rw [f k k1 k2]; exact g1 k k4 k6 k7 k8 k9 k0) ?_ ?_ ?_ ?_ ?_ ?_ ?_ ?_ f1 f2 <;> rw [f _ (by omega) (by omega)] <;> assumption
      · exfalso
        (try simp (disch := omega) only [bg_w_id, Int.toNat_natCast, rw_land, sh_land, not_true_eq_false, kc0, kc1, kc2, kc3, kc4, kc5, kc6, kc7, kc8, kc9, kc10, kc11, kc12, kc13, kc14, kc15, kc16, kc17, kc18, kc19, kc20, kc21, kc22, kc23, kc24, kc25, kc26, kc27, kc28, kc29, kc30, kc31, kc32, kc33] at q10) <;> (omega)
    · intro h' f f1 f2
      iterate 2 (refine hX _ ?_; conv => whnf)
      refine hX _ ?_; conv => whnf
      refine ⟨fun q10 => ?_, fun q10 => ?_⟩
      · exfalso
        (try simp (disch := omega) only [bg_w_id, Int.toNat_natCast, rw_land, sh_land, not_true_eq_false, bg_up_ne, kc0, kc1, kc2, kc3, kc4, kc5, kc6, kc7, kc8, kc9, kc10, kc11, kc12, kc13, kc14, kc15, kc16, kc17, kc18, kc19, kc20, kc21, kc22, kc23, kc24, kc25, kc26, kc27, kc28, kc29, kc30, kc31, kc32, kc33] at q10) <;> (omega)
      · try simp (disch := omega) only [bg_w_id, Int.toNat_natCast, rw_land, sh_land, not_true_eq_false, bg_up_ne, kc0, kc1, kc2, kc3, kc4, kc5, kc6, kc7, kc8, kc9, kc10, kc11, kc12, kc13, kc14, kc15, kc16, kc17, kc18, kc19, kc20, kc21, kc22, kc23, kc24, kc25, kc26, kc27, kc28, kc29, kc30, kc31, kc32, kc33] at q10
        iterate 14 (refine hX _ ?_; conv => whnf)
        refine hX _ ?_; conv => whnf
        try (simp (disch := omega) only [bg_w_id, Int.toNat_natCast, rw_land, sh_land, not_true_eq_false, bg_up_ne]; try conv => whnf)
        refine ⟨by first | omega | (simp (disch := omega) only [bg_w_id, Int.toNat_natCast, rw_land, sh_land, not_true_eq_false, bg_up_ne]; omega), ?_⟩
        refine hX _ ?_; conv => whnf
        try (simp (disch := omega) only [bg_w_id, Int.toNat_natCast, rw_land, sh_land, not_true_eq_false, bg_up_ne]; try conv => whnf)
        refine ⟨by first | omega | (simp (disch := omega) only [bg_w_id, Int.toNat_natCast, rw_land, sh_land, not_true_eq_false, bg_up_ne]; omega), ?_⟩
        iterate 14 (refine hX _ ?_; conv => whnf)
        refine hX _ ?_; conv => whnf
        try (simp (disch := omega) only [bg_w_id, Int.toNat_natCast, rw_land, sh_land, not_true_eq_false, bg_up_ne]; try conv => whnf)
        refine ⟨by first | omega | (simp (disch := omega) only [bg_w_id, Int.toNat_natCast, rw_land, sh_land, not_true_eq_false, bg_up_ne]; omega), ?_⟩
        refine hX _ ?_; conv => whnf
        try (simp (disch := omega) only [bg_w_id, Int.toNat_natCast, rw_land, sh_land, not_true_eq_false, bg_up_ne]; try conv => whnf)
        refine ⟨by first | omega | (simp (disch := omega) only [bg_w_id, Int.toNat_natCast, rw_land, sh_land, not_true_eq_false, bg_up_ne]; omega), ?_⟩
        iterate 2 (refine hX _ ?_; conv => whnf)
        refine ih _ (fun k k1 k2 => by rw [bg_up_ne k2, bg_up_ne k1]; exact f k k1 k2) ?_ ?_
        · rw [bg_up_ne (by omega), ← cp_s f1 (x := h' 122 (4 * a + i)) (by rw [f1]; exact cp_at (by omega) (by omega))]
          funext j
          rw [bg_up_at]
          rfl
        · rw [← cp_s f2 (x := h' 123 (4 * a + i)) (by rw [f2]; exact cp_at (by omega) (by omega))]
          funext j
          rw [bg_up_at, bg_up_ne (by omega)]
          rfl
  iterate 3 (refine hX _ ?_; conv => whnf)
  refine hX _ ?_; conv => whnf
  try simp (disch := omega) only [bg_w_id, Int.toNat_natCast, rw_land, sh_land, not_true_eq_false]
  refine s_mcopyLand d n a b (by omega) (by omega) hab h _ (fun h1 g1 g2 g3 g4 g5 g6 g7 g8 g9 => ?_)
  conv => whnf
  iterate 2 (refine hX _ ?_; conv => whnf)
  exact l1 h1 g1 g2 g3 g4 g5 g6 g7 g8 g9 0 (by omega) h1 (fun _ _ _ => rfl) (by rw [cp_0, g1 122 (by omega) (by omega) (by omega) (by omega) (by omega) (by omega)]) (by rw [cp_0, g1 123 (by omega) (by omega) (by omega) (by omega) (by omega) (by omega)])
