/-! the class's plain calls -/
theorem s_hp_t (d n : Nat) (p : Int) (h : bg_G) (Rt : bg_R) (hp : i32 p) (hn : 0 ≤ h 22 3 ∧ h 22 3 ≤ 12) (hc : 0 ≤ p ∧ p < h 22 3) (hR : Rt (some (.inl 1)) (bg_SH n, h)) : bg_Ca bg_MS (d + 1) 36 [vR 22, vI p] (bg_SH n, h) Rt := by
  refine s_hasPath d n p h Rt hp hn ?_
  rw [if_pos hc]; exact hR
theorem s_hp_f (d n : Nat) (p : Int) (h : bg_G) (Rt : bg_R) (hp : i32 p) (hn : 0 ≤ h 22 3 ∧ h 22 3 ≤ 12) (hc : ¬ (0 ≤ p ∧ p < h 22 3)) (hR : Rt (some (.inl 0)) (bg_SH n, h)) : bg_Ca bg_MS (d + 1) 36 [vR 22, vI p] (bg_SH n, h) Rt := by
  refine s_hasPath d n p h Rt hp hn ?_
  rw [if_neg hc]; exact hR
theorem s_hs_t (d n : Nat) (s : Int) (h : bg_G) (Rt : bg_R) (hc : isp (h 22 3) (h 22 4) s = 1) (hR : Rt (some (.inl 1)) (bg_SH n, h)) : bg_Ca bg_MS (d + 1) 37 [vR 22, vI s] (bg_SH n, h) Rt := by
  refine s_hasPosts d n s h Rt ?_
  rw [hc]; exact hR
theorem s_hs_f (d n : Nat) (s : Int) (h : bg_G) (Rt : bg_R) (hc : ¬ isp (h 22 3) (h 22 4) s = 1) (hR : Rt (some (.inl 0)) (bg_SH n, h)) : bg_Ca bg_MS (d + 1) 37 [vR 22, vI s] (bg_SH n, h) Rt := by
  refine s_hasPosts d n s h Rt ?_
  rw [(isp_01 _ _ _).resolve_right hc]; exact hR
abbrev spC (h : bg_G) (s : Int) : Prop := isp (h 22 3) (h 22 4) s = 1
def costC (h : bg_G) (s : Int) : Int := sm 12 (fun i => bt s i * h (24 + i) 4) + sm 3 (fun t => bt s (12 + t) * h 37 t)
def waitC (h : bg_G) (held : Int) : Int := sm 12 (fun i => bt held i * h (24 + i) 6)
theorem s_cpath (d n : Nat) (p w : Int) (hp : i32 p) (hw : i32 w) (h : bg_G) (hn : 0 ≤ h 22 3 ∧ h 22 3 ≤ 12) (Rt : bg_R) (hR1 : (0 ≤ p ∧ p < h 22 3) → (0 ≤ w ∧ w ≤ 6) → Rt (some (.inl (h (24 + p.toNat) w))) (bg_SH n, h)) (hR0 : ¬ ((0 ≤ p ∧ p < h 22 3) ∧ (0 ≤ w ∧ w ≤ 6)) → Rt (some (.inl (-1))) (bg_SH n, h)) : bg_Ca bg_MS (d + 2) 82 [vR 2, vI p, vI w] (bg_SH n, h) Rt := by
  refine bg_ca (cd := cd_X8_path) rfl rfl ?_
  intro X hX
  by_cases c1 : 0 ≤ p ∧ p < h 22 3
  · obtain ⟨q, rfl⟩ : ∃ q : Nat, p = q := ⟨p.toNat, by omega⟩
    have hq : q < 12 := by omega
    rw [Int.toNat_natCast] at hR1
    iterate 3 (refine hX _ ?_; conv => whnf)
    refine hX _ ?_; conv => whnf
    try simp (disch := omega) only [bg_w_id, Int.toNat_natCast, rw_land, sh_land, not_true_eq_false]
    refine s_hp_t d _ _ _ _ hp hn c1 ?_
    conv => whnf
    refine hX _ ?_; conv => whnf
    refine ⟨fun q8 => ?_, fun q8 => ?_⟩
    · exfalso
      (try simp (disch := omega) only [bg_w_id, Int.toNat_natCast, rw_land, sh_land, not_true_eq_false, kc0, kc1, kc2, kc3, kc4, kc5, kc6, kc7, kc8, kc9, kc10, kc11, kc12, kc13, kc14, kc15, kc16, kc17, kc18, kc19, kc20, kc21, kc22, kc23, kc24, kc25, kc26, kc27, kc28, kc29, kc30, kc31, kc32, kc33] at q8) <;> (omega)
    · try simp (disch := omega) only [bg_w_id, Int.toNat_natCast, rw_land, sh_land, not_true_eq_false, kc0, kc1, kc2, kc3, kc4, kc5, kc6, kc7, kc8, kc9, kc10, kc11, kc12, kc13, kc14, kc15, kc16, kc17, kc18, kc19, kc20, kc21, kc22, kc23, kc24, kc25, kc26, kc27, kc28, kc29, kc30, kc31, kc32, kc33] at q8
      refine hX _ ?_; conv => whnf
      refine hX _ ?_; conv => whnf
      refine ⟨fun q12 => ?_, fun q12 => ?_⟩
      · try simp (disch := omega) only [bg_w_id, Int.toNat_natCast, rw_land, sh_land, not_true_eq_false, kc0, kc1, kc2, kc3, kc4, kc5, kc6, kc7, kc8, kc9, kc10, kc11, kc12, kc13, kc14, kc15, kc16, kc17, kc18, kc19, kc20, kc21, kc22, kc23, kc24, kc25, kc26, kc27, kc28, kc29, kc30, kc31, kc32, kc33] at q12
        refine hX _ ?_; conv => whnf
        refine hX _ ?_; conv => whnf
        first
        | exact hR0 (fun e => absurd e.2 (by omega))
        | exact hR1 c1 (by omega)
      · try simp (disch := omega) only [bg_w_id, Int.toNat_natCast, rw_land, sh_land, not_true_eq_false, kc0, kc1, kc2, kc3, kc4, kc5, kc6, kc7, kc8, kc9, kc10, kc11, kc12, kc13, kc14, kc15, kc16, kc17, kc18, kc19, kc20, kc21, kc22, kc23, kc24, kc25, kc26, kc27, kc28, kc29, kc30, kc31, kc32, kc33] at q12
        iterate 2 (refine hX _ ?_; conv => whnf)
        refine hX _ ?_; conv => whnf
        refine ⟨fun q18 => ?_, fun q18 => ?_⟩
        · try simp (disch := omega) only [bg_w_id, Int.toNat_natCast, rw_land, sh_land, not_true_eq_false, kc0, kc1, kc2, kc3, kc4, kc5, kc6, kc7, kc8, kc9, kc10, kc11, kc12, kc13, kc14, kc15, kc16, kc17, kc18, kc19, kc20, kc21, kc22, kc23, kc24, kc25, kc26, kc27, kc28, kc29, kc30, kc31, kc32, kc33] at q18
          iterate 4 (refine hX _ ?_; conv => whnf)
          refine hX _ ?_; conv => whnf
          try (simp (disch := omega) only [bg_w_id, Int.toNat_natCast, rw_land, sh_land, not_true_eq_false]; try conv => whnf)
          refine ⟨by first | omega | (simp (disch := omega) only [bg_w_id, Int.toNat_natCast, rw_land, sh_land, not_true_eq_false]; omega), ?_⟩
          try (simp (disch := omega) only [bg_w_id, Int.toNat_natCast, rw_land, sh_land, not_true_eq_false])
          try conv => whnf
          refine hX _ ?_; conv => whnf
          refine hX _ ?_; conv => whnf
          try (simp (disch := omega) only [bg_w_id, Int.toNat_natCast, rw_land, sh_land, not_true_eq_false]; try conv => whnf)
          refine ⟨by first | omega | (simp (disch := omega) only [bg_w_id, Int.toNat_natCast, rw_land, sh_land, not_true_eq_false]; omega), ?_⟩
          refine hX _ ?_; conv => whnf
          first
          | exact hR0 (fun e => absurd e.2 (by omega))
          | exact hR1 c1 (by omega)
        · try simp (disch := omega) only [bg_w_id, Int.toNat_natCast, rw_land, sh_land, not_true_eq_false, kc0, kc1, kc2, kc3, kc4, kc5, kc6, kc7, kc8, kc9, kc10, kc11, kc12, kc13, kc14, kc15, kc16, kc17, kc18, kc19, kc20, kc21, kc22, kc23, kc24, kc25, kc26, kc27, kc28, kc29, kc30, kc31, kc32, kc33] at q18
          refine hX _ ?_; conv => whnf
          refine hX _ ?_; conv => whnf
          first
          | exact hR0 (fun e => absurd e.2 (by omega))
          | exact hR1 c1 (by omega)
  · iterate 3 (refine hX _ ?_; conv => whnf)
    refine hX _ ?_; conv => whnf
    try simp (disch := omega) only [bg_w_id, Int.toNat_natCast, rw_land, sh_land, not_true_eq_false]
    refine s_hp_f d _ _ _ _ hp hn c1 ?_
    conv => whnf
    refine hX _ ?_; conv => whnf
    refine ⟨fun q8 => ?_, fun q8 => ?_⟩
    · try simp (disch := omega) only [bg_w_id, Int.toNat_natCast, rw_land, sh_land, not_true_eq_false, kc0, kc1, kc2, kc3, kc4, kc5, kc6, kc7, kc8, kc9, kc10, kc11, kc12, kc13, kc14, kc15, kc16, kc17, kc18, kc19, kc20, kc21, kc22, kc23, kc24, kc25, kc26, kc27, kc28, kc29, kc30, kc31, kc32, kc33] at q8
      refine hX _ ?_; conv => whnf
      refine hX _ ?_; conv => whnf
      exact hR0 (fun e => c1 e.1)
    · exfalso
      (try simp (disch := omega) only [bg_w_id, Int.toNat_natCast, rw_land, sh_land, not_true_eq_false, kc0, kc1, kc2, kc3, kc4, kc5, kc6, kc7, kc8, kc9, kc10, kc11, kc12, kc13, kc14, kc15, kc16, kc17, kc18, kc19, kc20, kc21, kc22, kc23, kc24, kc25, kc26, kc27, kc28, kc29, kc30, kc31, kc32, kc33] at q8) <;> (omega)
theorem s_cposts (d n : Nat) (s w : Int) (hw : i32 w) (h : bg_G) (Rt : bg_R) (hR1 : spC h s → (0 ≤ w ∧ w ≤ 2) → Rt (some (.inl (if w = 0 then costC h s else if w = 1 then heldC h s else waitC h (heldC h s)))) (bg_SH n, h)) (hR0 : ¬ (spC h s ∧ (0 ≤ w ∧ w ≤ 2)) → Rt (some (.inl (-1))) (bg_SH n, h)) : bg_Ca bg_MS (d + 2) 83 [vR 2, vI s, vI w] (bg_SH n, h) Rt := by
  refine bg_ca (cd := cd_X8_posts) rfl rfl ?_
  intro X hX
  by_cases c1 : spC h s
  · iterate 3 (refine hX _ ?_; conv => whnf)
    refine hX _ ?_; conv => whnf
    try simp (disch := omega) only [bg_w_id, Int.toNat_natCast, rw_land, sh_land, not_true_eq_false]
    refine s_hs_t d _ _ _ _ c1 ?_
    conv => whnf
    refine hX _ ?_; conv => whnf
    refine ⟨fun q8 => ?_, fun q8 => ?_⟩
    · exfalso
      (try simp (disch := omega) only [bg_w_id, Int.toNat_natCast, rw_land, sh_land, not_true_eq_false, kc0, kc1, kc2, kc3, kc4, kc5, kc6, kc7, kc8, kc9, kc10, kc11, kc12, kc13, kc14, kc15, kc16, kc17, kc18, kc19, kc20, kc21, kc22, kc23, kc24, kc25, kc26, kc27, kc28, kc29, kc30, kc31, kc32, kc33] at q8) <;> (omega)
    · try simp (disch := omega) only [bg_w_id, Int.toNat_natCast, rw_land, sh_land, not_true_eq_false, kc0, kc1, kc2, kc3, kc4, kc5, kc6, kc7, kc8, kc9, kc10, kc11, kc12, kc13, kc14, kc15, kc16, kc17, kc18, kc19, kc20, kc21, kc22, kc23, kc24, kc25, kc26, kc27, kc28, kc29, kc30, kc31, kc32, kc33] at q8
      refine hX _ ?_; conv => whnf
      refine hX _ ?_; conv => whnf
      refine ⟨fun q12 => ?_, fun q12 => ?_⟩
      · try simp (disch := omega) only [bg_w_id, Int.toNat_natCast, rw_land, sh_land, not_true_eq_false, kc0, kc1, kc2, kc3, kc4, kc5, kc6, kc7, kc8, kc9, kc10, kc11, kc12, kc13, kc14, kc15, kc16, kc17, kc18, kc19, kc20, kc21, kc22, kc23, kc24, kc25, kc26, kc27, kc28, kc29, kc30, kc31, kc32, kc33] at q12
        refine hX _ ?_; conv => whnf
        refine hX _ ?_; conv => whnf
        first
        | exact hR0 (fun e => absurd e.2 (by omega))
        | (have hR1 := hR1 c1 (by omega); rw [if_pos (by omega)] at hR1; exact hR1)
        | (have hR1 := hR1 c1 (by omega); rw [if_neg (by omega), if_pos (by omega)] at hR1; exact hR1)
        | (have hR1 := hR1 c1 (by omega); rw [if_neg (by omega), if_neg (by omega)] at hR1; exact hR1)
      · try simp (disch := omega) only [bg_w_id, Int.toNat_natCast, rw_land, sh_land, not_true_eq_false, kc0, kc1, kc2, kc3, kc4, kc5, kc6, kc7, kc8, kc9, kc10, kc11, kc12, kc13, kc14, kc15, kc16, kc17, kc18, kc19, kc20, kc21, kc22, kc23, kc24, kc25, kc26, kc27, kc28, kc29, kc30, kc31, kc32, kc33] at q12
        iterate 2 (refine hX _ ?_; conv => whnf)
        refine hX _ ?_; conv => whnf
        refine ⟨fun q17 => ?_, fun q17 => ?_⟩
        · try simp (disch := omega) only [bg_w_id, Int.toNat_natCast, rw_land, sh_land, not_true_eq_false, kc0, kc1, kc2, kc3, kc4, kc5, kc6, kc7, kc8, kc9, kc10, kc11, kc12, kc13, kc14, kc15, kc16, kc17, kc18, kc19, kc20, kc21, kc22, kc23, kc24, kc25, kc26, kc27, kc28, kc29, kc30, kc31, kc32, kc33] at q17
          refine hX _ ?_; conv => whnf
          refine hX _ ?_; conv => whnf
          refine ⟨fun q23 => ?_, fun q23 => ?_⟩
          · try simp (disch := omega) only [bg_w_id, Int.toNat_natCast, rw_land, sh_land, not_true_eq_false, kc0, kc1, kc2, kc3, kc4, kc5, kc6, kc7, kc8, kc9, kc10, kc11, kc12, kc13, kc14, kc15, kc16, kc17, kc18, kc19, kc20, kc21, kc22, kc23, kc24, kc25, kc26, kc27, kc28, kc29, kc30, kc31, kc32, kc33] at q23
            iterate 3 (refine hX _ ?_; conv => whnf)
            refine hX _ ?_; conv => whnf
            try simp (disch := omega) only [bg_w_id, Int.toNat_natCast, rw_land, sh_land, not_true_eq_false]
            refine s_heldBy d _ _ _ _ ?_
            conv => whnf
            iterate 3 (refine hX _ ?_; conv => whnf)
            refine hX _ ?_; conv => whnf
            refine ⟨fun q46 => ?_, fun q46 => ?_⟩
            · try simp (disch := omega) only [bg_w_id, Int.toNat_natCast, rw_land, sh_land, not_true_eq_false, kc0, kc1, kc2, kc3, kc4, kc5, kc6, kc7, kc8, kc9, kc10, kc11, kc12, kc13, kc14, kc15, kc16, kc17, kc18, kc19, kc20, kc21, kc22, kc23, kc24, kc25, kc26, kc27, kc28, kc29, kc30, kc31, kc32, kc33] at q46
              iterate 3 (refine hX _ ?_; conv => whnf)
              refine hX _ ?_; conv => whnf
              try simp (disch := omega) only [bg_w_id, Int.toNat_natCast, rw_land, sh_land, not_true_eq_false]
              refine s_waitsOf d _ _ _ _ ?_
              conv => whnf
              refine hX _ ?_; conv => whnf
              first
              | exact hR0 (fun e => absurd e.2 (by omega))
              | (have hR1 := hR1 c1 (by omega); rw [if_pos (by omega)] at hR1; exact hR1)
              | (have hR1 := hR1 c1 (by omega); rw [if_neg (by omega), if_pos (by omega)] at hR1; exact hR1)
              | (have hR1 := hR1 c1 (by omega); rw [if_neg (by omega), if_neg (by omega)] at hR1; exact hR1)
            · try simp (disch := omega) only [bg_w_id, Int.toNat_natCast, rw_land, sh_land, not_true_eq_false, kc0, kc1, kc2, kc3, kc4, kc5, kc6, kc7, kc8, kc9, kc10, kc11, kc12, kc13, kc14, kc15, kc16, kc17, kc18, kc19, kc20, kc21, kc22, kc23, kc24, kc25, kc26, kc27, kc28, kc29, kc30, kc31, kc32, kc33] at q46
              iterate 2 (refine hX _ ?_; conv => whnf)
              refine hX _ ?_; conv => whnf
              first
              | exact hR0 (fun e => absurd e.2 (by omega))
              | (have hR1 := hR1 c1 (by omega); rw [if_pos (by omega)] at hR1; exact hR1)
              | (have hR1 := hR1 c1 (by omega); rw [if_neg (by omega), if_pos (by omega)] at hR1; exact hR1)
              | (have hR1 := hR1 c1 (by omega); rw [if_neg (by omega), if_neg (by omega)] at hR1; exact hR1)
          · try simp (disch := omega) only [bg_w_id, Int.toNat_natCast, rw_land, sh_land, not_true_eq_false, kc0, kc1, kc2, kc3, kc4, kc5, kc6, kc7, kc8, kc9, kc10, kc11, kc12, kc13, kc14, kc15, kc16, kc17, kc18, kc19, kc20, kc21, kc22, kc23, kc24, kc25, kc26, kc27, kc28, kc29, kc30, kc31, kc32, kc33] at q23
            iterate 3 (refine hX _ ?_; conv => whnf)
            refine hX _ ?_; conv => whnf
            try simp (disch := omega) only [bg_w_id, Int.toNat_natCast, rw_land, sh_land, not_true_eq_false]
            refine s_costOf d _ _ _ _ ?_
            conv => whnf
            refine hX _ ?_; conv => whnf
            first
            | exact hR0 (fun e => absurd e.2 (by omega))
            | (have hR1 := hR1 c1 (by omega); rw [if_pos (by omega)] at hR1; exact hR1)
            | (have hR1 := hR1 c1 (by omega); rw [if_neg (by omega), if_pos (by omega)] at hR1; exact hR1)
            | (have hR1 := hR1 c1 (by omega); rw [if_neg (by omega), if_neg (by omega)] at hR1; exact hR1)
        · try simp (disch := omega) only [bg_w_id, Int.toNat_natCast, rw_land, sh_land, not_true_eq_false, kc0, kc1, kc2, kc3, kc4, kc5, kc6, kc7, kc8, kc9, kc10, kc11, kc12, kc13, kc14, kc15, kc16, kc17, kc18, kc19, kc20, kc21, kc22, kc23, kc24, kc25, kc26, kc27, kc28, kc29, kc30, kc31, kc32, kc33] at q17
          refine hX _ ?_; conv => whnf
          refine hX _ ?_; conv => whnf
          first
          | exact hR0 (fun e => absurd e.2 (by omega))
          | (have hR1 := hR1 c1 (by omega); rw [if_pos (by omega)] at hR1; exact hR1)
          | (have hR1 := hR1 c1 (by omega); rw [if_neg (by omega), if_pos (by omega)] at hR1; exact hR1)
          | (have hR1 := hR1 c1 (by omega); rw [if_neg (by omega), if_neg (by omega)] at hR1; exact hR1)
  · iterate 3 (refine hX _ ?_; conv => whnf)
    refine hX _ ?_; conv => whnf
    try simp (disch := omega) only [bg_w_id, Int.toNat_natCast, rw_land, sh_land, not_true_eq_false]
    refine s_hs_f d _ _ _ _ c1 ?_
    conv => whnf
    refine hX _ ?_; conv => whnf
    refine ⟨fun q8 => ?_, fun q8 => ?_⟩
    · try simp (disch := omega) only [bg_w_id, Int.toNat_natCast, rw_land, sh_land, not_true_eq_false, kc0, kc1, kc2, kc3, kc4, kc5, kc6, kc7, kc8, kc9, kc10, kc11, kc12, kc13, kc14, kc15, kc16, kc17, kc18, kc19, kc20, kc21, kc22, kc23, kc24, kc25, kc26, kc27, kc28, kc29, kc30, kc31, kc32, kc33] at q8
      refine hX _ ?_; conv => whnf
      refine hX _ ?_; conv => whnf
      exact hR0 (fun e => c1 e.1)
    · exfalso
      (try simp (disch := omega) only [bg_w_id, Int.toNat_natCast, rw_land, sh_land, not_true_eq_false, kc0, kc1, kc2, kc3, kc4, kc5, kc6, kc7, kc8, kc9, kc10, kc11, kc12, kc13, kc14, kc15, kc16, kc17, kc18, kc19, kc20, kc21, kc22, kc23, kc24, kc25, kc26, kc27, kc28, kc29, kc30, kc31, kc32, kc33] at q8) <;> (omega)
theorem s_cbears (d n : Nat) (s p : Int) (hp : i32 p) (h : bg_G) (hn : 0 ≤ h 22 3 ∧ h 22 3 ≤ 12) (Rt : bg_R) (hR1 : spC h s → (0 ≤ p ∧ p < h 22 3) → Rt (some (.inl (bearC h (heldC h s) p.toNat 0))) (bg_SH n, h)) (hR0 : ¬ (spC h s ∧ (0 ≤ p ∧ p < h 22 3)) → Rt (some (.inl (-1))) (bg_SH n, h)) : bg_Ca bg_MS (d + 3) 84 [vR 2, vI s, vI p] (bg_SH n, h) Rt := by
  refine bg_ca (cd := cd_X8_bears) rfl rfl ?_
  intro X hX
  by_cases c1 : spC h s
  · by_cases c2 : 0 ≤ p ∧ p < h 22 3
    · have hR1 := hR1 c1 c2
      obtain ⟨q, rfl⟩ : ∃ q : Nat, p = q := ⟨p.toNat, by omega⟩
      iterate 3 (refine hX _ ?_; conv => whnf)
      refine hX _ ?_; conv => whnf
      try simp (disch := omega) only [bg_w_id, Int.toNat_natCast, rw_land, sh_land, not_true_eq_false]
      refine s_hs_t (d + 1) _ _ _ _ c1 ?_
      conv => whnf
      refine hX _ ?_; conv => whnf
      refine ⟨fun q8 => ?_, fun q8 => ?_⟩
      · exfalso
        (try simp (disch := omega) only [bg_w_id, Int.toNat_natCast, rw_land, sh_land, not_true_eq_false, kc0, kc1, kc2, kc3, kc4, kc5, kc6, kc7, kc8, kc9, kc10, kc11, kc12, kc13, kc14, kc15, kc16, kc17, kc18, kc19, kc20, kc21, kc22, kc23, kc24, kc25, kc26, kc27, kc28, kc29, kc30, kc31, kc32, kc33] at q8) <;> (omega)
      · try simp (disch := omega) only [bg_w_id, Int.toNat_natCast, rw_land, sh_land, not_true_eq_false, kc0, kc1, kc2, kc3, kc4, kc5, kc6, kc7, kc8, kc9, kc10, kc11, kc12, kc13, kc14, kc15, kc16, kc17, kc18, kc19, kc20, kc21, kc22, kc23, kc24, kc25, kc26, kc27, kc28, kc29, kc30, kc31, kc32, kc33] at q8
        iterate 3 (refine hX _ ?_; conv => whnf)
        refine hX _ ?_; conv => whnf
        try simp (disch := omega) only [bg_w_id, Int.toNat_natCast, rw_land, sh_land, not_true_eq_false]
        refine s_hp_t (d + 1) _ _ _ _ hp hn c2 ?_
        conv => whnf
        refine hX _ ?_; conv => whnf
        refine ⟨fun q19 => ?_, fun q19 => ?_⟩
        · try simp (disch := omega) only [bg_w_id, Int.toNat_natCast, rw_land, sh_land, not_true_eq_false, kc0, kc1, kc2, kc3, kc4, kc5, kc6, kc7, kc8, kc9, kc10, kc11, kc12, kc13, kc14, kc15, kc16, kc17, kc18, kc19, kc20, kc21, kc22, kc23, kc24, kc25, kc26, kc27, kc28, kc29, kc30, kc31, kc32, kc33] at q19
          iterate 6 (refine hX _ ?_; conv => whnf)
          refine hX _ ?_; conv => whnf
          try simp (disch := omega) only [bg_w_id, Int.toNat_natCast, rw_land, sh_land, not_true_eq_false]
          refine s_heldBy (d + 1) _ _ _ _ ?_
          conv => whnf
          refine hX _ ?_; conv => whnf
          refine hX _ ?_; conv => whnf
          try simp (disch := omega) only [bg_w_id, Int.toNat_natCast, rw_land, sh_land, not_true_eq_false]
          refine s_bearing d _ _ (by omega) _ _ _ _ ?_
          conv => whnf
          refine hX _ ?_; conv => whnf
          exact hR1
        · exfalso
          (try simp (disch := omega) only [bg_w_id, Int.toNat_natCast, rw_land, sh_land, not_true_eq_false, kc0, kc1, kc2, kc3, kc4, kc5, kc6, kc7, kc8, kc9, kc10, kc11, kc12, kc13, kc14, kc15, kc16, kc17, kc18, kc19, kc20, kc21, kc22, kc23, kc24, kc25, kc26, kc27, kc28, kc29, kc30, kc31, kc32, kc33] at q19) <;> (omega)
    · iterate 3 (refine hX _ ?_; conv => whnf)
      refine hX _ ?_; conv => whnf
      try simp (disch := omega) only [bg_w_id, Int.toNat_natCast, rw_land, sh_land, not_true_eq_false]
      refine s_hs_t (d + 1) _ _ _ _ c1 ?_
      conv => whnf
      refine hX _ ?_; conv => whnf
      refine ⟨fun q8 => ?_, fun q8 => ?_⟩
      · exfalso
        (try simp (disch := omega) only [bg_w_id, Int.toNat_natCast, rw_land, sh_land, not_true_eq_false, kc0, kc1, kc2, kc3, kc4, kc5, kc6, kc7, kc8, kc9, kc10, kc11, kc12, kc13, kc14, kc15, kc16, kc17, kc18, kc19, kc20, kc21, kc22, kc23, kc24, kc25, kc26, kc27, kc28, kc29, kc30, kc31, kc32, kc33] at q8) <;> (omega)
      · try simp (disch := omega) only [bg_w_id, Int.toNat_natCast, rw_land, sh_land, not_true_eq_false, kc0, kc1, kc2, kc3, kc4, kc5, kc6, kc7, kc8, kc9, kc10, kc11, kc12, kc13, kc14, kc15, kc16, kc17, kc18, kc19, kc20, kc21, kc22, kc23, kc24, kc25, kc26, kc27, kc28, kc29, kc30, kc31, kc32, kc33] at q8
        iterate 3 (refine hX _ ?_; conv => whnf)
        refine hX _ ?_; conv => whnf
        try simp (disch := omega) only [bg_w_id, Int.toNat_natCast, rw_land, sh_land, not_true_eq_false]
        refine s_hp_f (d + 1) _ _ _ _ hp hn c2 ?_
        conv => whnf
        refine hX _ ?_; conv => whnf
        refine ⟨fun q19 => ?_, fun q19 => ?_⟩
        · exfalso
          (try simp (disch := omega) only [bg_w_id, Int.toNat_natCast, rw_land, sh_land, not_true_eq_false, kc0, kc1, kc2, kc3, kc4, kc5, kc6, kc7, kc8, kc9, kc10, kc11, kc12, kc13, kc14, kc15, kc16, kc17, kc18, kc19, kc20, kc21, kc22, kc23, kc24, kc25, kc26, kc27, kc28, kc29, kc30, kc31, kc32, kc33] at q19) <;> (omega)
        · try simp (disch := omega) only [bg_w_id, Int.toNat_natCast, rw_land, sh_land, not_true_eq_false, kc0, kc1, kc2, kc3, kc4, kc5, kc6, kc7, kc8, kc9, kc10, kc11, kc12, kc13, kc14, kc15, kc16, kc17, kc18, kc19, kc20, kc21, kc22, kc23, kc24, kc25, kc26, kc27, kc28, kc29, kc30, kc31, kc32, kc33] at q19
          refine hX _ ?_; conv => whnf
          refine hX _ ?_; conv => whnf
          exact hR0 (fun e => c2 e.2)
  · iterate 3 (refine hX _ ?_; conv => whnf)
    refine hX _ ?_; conv => whnf
    try simp (disch := omega) only [bg_w_id, Int.toNat_natCast, rw_land, sh_land, not_true_eq_false]
    refine s_hs_f (d + 1) _ _ _ _ c1 ?_
    conv => whnf
    refine hX _ ?_; conv => whnf
    refine ⟨fun q8 => ?_, fun q8 => ?_⟩
    · try simp (disch := omega) only [bg_w_id, Int.toNat_natCast, rw_land, sh_land, not_true_eq_false, kc0, kc1, kc2, kc3, kc4, kc5, kc6, kc7, kc8, kc9, kc10, kc11, kc12, kc13, kc14, kc15, kc16, kc17, kc18, kc19, kc20, kc21, kc22, kc23, kc24, kc25, kc26, kc27, kc28, kc29, kc30, kc31, kc32, kc33] at q8
      refine hX _ ?_; conv => whnf
      refine hX _ ?_; conv => whnf
      exact hR0 (fun e => c1 e.1)
    · exfalso
      (try simp (disch := omega) only [bg_w_id, Int.toNat_natCast, rw_land, sh_land, not_true_eq_false, kc0, kc1, kc2, kc3, kc4, kc5, kc6, kc7, kc8, kc9, kc10, kc11, kc12, kc13, kc14, kc15, kc16, kc17, kc18, kc19, kc20, kc21, kc22, kc23, kc24, kc25, kc26, kc27, kc28, kc29, kc30, kc31, kc32, kc33] at q8) <;> (omega)
theorem s_crow (d n : Nat) (p v : Int) (hp : i32 p) (hv : i32 v) (h : bg_G) (Rt : bg_R) (hR1 : (0 ≤ p ∧ p ≤ 11) → (0 ≤ v ∧ v ≤ 99) → Rt (some (.inl (h 73 p))) (bg_SH n, bg_up h 73 p v)) (hR0 : ¬ ((0 ≤ p ∧ p ≤ 11) ∧ (0 ≤ v ∧ v ≤ 99)) → Rt (some (.inl (-1))) (bg_SH n, h)) : bg_Ca bg_MS (d + 1) 86 [vR 2, vI p, vI v] (bg_SH n, h) Rt := by
  refine bg_ca (cd := cd_X8_row) rfl rfl ?_
  intro X hX
  refine hX _ ?_; conv => whnf
  refine hX _ ?_; conv => whnf
  refine ⟨fun q1 => ?_, fun q1 => ?_⟩
  · try simp (disch := omega) only [bg_w_id, Int.toNat_natCast, rw_land, sh_land, not_true_eq_false, kc0, kc1, kc2, kc3, kc4, kc5, kc6, kc7, kc8, kc9, kc10, kc11, kc12, kc13, kc14, kc15, kc16, kc17, kc18, kc19, kc20, kc21, kc22, kc23, kc24, kc25, kc26, kc27, kc28, kc29, kc30, kc31, kc32, kc33] at q1
    refine hX _ ?_; conv => whnf
    refine hX _ ?_; conv => whnf
    first
    | exact hR0 (fun e => by omega)
    | exact hR1 (by omega) (by omega)
  · try simp (disch := omega) only [bg_w_id, Int.toNat_natCast, rw_land, sh_land, not_true_eq_false, kc0, kc1, kc2, kc3, kc4, kc5, kc6, kc7, kc8, kc9, kc10, kc11, kc12, kc13, kc14, kc15, kc16, kc17, kc18, kc19, kc20, kc21, kc22, kc23, kc24, kc25, kc26, kc27, kc28, kc29, kc30, kc31, kc32, kc33] at q1
    iterate 2 (refine hX _ ?_; conv => whnf)
    refine hX _ ?_; conv => whnf
    refine ⟨fun q7 => ?_, fun q7 => ?_⟩
    · try simp (disch := omega) only [bg_w_id, Int.toNat_natCast, rw_land, sh_land, not_true_eq_false, kc0, kc1, kc2, kc3, kc4, kc5, kc6, kc7, kc8, kc9, kc10, kc11, kc12, kc13, kc14, kc15, kc16, kc17, kc18, kc19, kc20, kc21, kc22, kc23, kc24, kc25, kc26, kc27, kc28, kc29, kc30, kc31, kc32, kc33] at q7
      refine hX _ ?_; conv => whnf
      refine hX _ ?_; conv => whnf
      first
      | exact hR0 (fun e => by omega)
      | exact hR1 (by omega) (by omega)
    · try simp (disch := omega) only [bg_w_id, Int.toNat_natCast, rw_land, sh_land, not_true_eq_false, kc0, kc1, kc2, kc3, kc4, kc5, kc6, kc7, kc8, kc9, kc10, kc11, kc12, kc13, kc14, kc15, kc16, kc17, kc18, kc19, kc20, kc21, kc22, kc23, kc24, kc25, kc26, kc27, kc28, kc29, kc30, kc31, kc32, kc33] at q7
      refine hX _ ?_; conv => whnf
      refine hX _ ?_; conv => whnf
      refine ⟨fun q11 => ?_, fun q11 => ?_⟩
      · try simp (disch := omega) only [bg_w_id, Int.toNat_natCast, rw_land, sh_land, not_true_eq_false, kc0, kc1, kc2, kc3, kc4, kc5, kc6, kc7, kc8, kc9, kc10, kc11, kc12, kc13, kc14, kc15, kc16, kc17, kc18, kc19, kc20, kc21, kc22, kc23, kc24, kc25, kc26, kc27, kc28, kc29, kc30, kc31, kc32, kc33] at q11
        refine hX _ ?_; conv => whnf
        refine hX _ ?_; conv => whnf
        first
        | exact hR0 (fun e => by omega)
        | exact hR1 (by omega) (by omega)
      · try simp (disch := omega) only [bg_w_id, Int.toNat_natCast, rw_land, sh_land, not_true_eq_false, kc0, kc1, kc2, kc3, kc4, kc5, kc6, kc7, kc8, kc9, kc10, kc11, kc12, kc13, kc14, kc15, kc16, kc17, kc18, kc19, kc20, kc21, kc22, kc23, kc24, kc25, kc26, kc27, kc28, kc29, kc30, kc31, kc32, kc33] at q11
        iterate 2 (refine hX _ ?_; conv => whnf)
        refine hX _ ?_; conv => whnf
        refine ⟨fun q17 => ?_, fun q17 => ?_⟩
        · try simp (disch := omega) only [bg_w_id, Int.toNat_natCast, rw_land, sh_land, not_true_eq_false, kc0, kc1, kc2, kc3, kc4, kc5, kc6, kc7, kc8, kc9, kc10, kc11, kc12, kc13, kc14, kc15, kc16, kc17, kc18, kc19, kc20, kc21, kc22, kc23, kc24, kc25, kc26, kc27, kc28, kc29, kc30, kc31, kc32, kc33] at q17
          iterate 3 (refine hX _ ?_; conv => whnf)
          refine hX _ ?_; conv => whnf
          try (simp (disch := omega) only [bg_w_id, Int.toNat_natCast, rw_land, sh_land, not_true_eq_false]; try conv => whnf)
          refine ⟨by first | omega | (simp (disch := omega) only [bg_w_id, Int.toNat_natCast, rw_land, sh_land, not_true_eq_false]; omega), ?_⟩
          iterate 5 (refine hX _ ?_; conv => whnf)
          refine hX _ ?_; conv => whnf
          try (simp (disch := omega) only [bg_w_id, Int.toNat_natCast, rw_land, sh_land, not_true_eq_false]; try conv => whnf)
          refine ⟨by first | omega | (simp (disch := omega) only [bg_w_id, Int.toNat_natCast, rw_land, sh_land, not_true_eq_false]; omega), ?_⟩
          refine hX _ ?_; conv => whnf
          refine hX _ ?_; conv => whnf
          first
          | exact hR0 (fun e => by omega)
          | exact hR1 (by omega) (by omega)
        · try simp (disch := omega) only [bg_w_id, Int.toNat_natCast, rw_land, sh_land, not_true_eq_false, kc0, kc1, kc2, kc3, kc4, kc5, kc6, kc7, kc8, kc9, kc10, kc11, kc12, kc13, kc14, kc15, kc16, kc17, kc18, kc19, kc20, kc21, kc22, kc23, kc24, kc25, kc26, kc27, kc28, kc29, kc30, kc31, kc32, kc33] at q17
          refine hX _ ?_; conv => whnf
          refine hX _ ?_; conv => whnf
          first
          | exact hR0 (fun e => by omega)
          | exact hR1 (by omega) (by omega)
theorem s_ctenths (d n : Nat) (p v : Int) (hp : i32 p) (hv : i32 v) (h : bg_G) (Rt : bg_R) (hR1 : (0 ≤ p ∧ p ≤ 3) → (0 ≤ v ∧ v ≤ 10) → Rt (some (.inl (h 74 p))) (bg_SH n, bg_up h 74 p v)) (hR0 : ¬ ((0 ≤ p ∧ p ≤ 3) ∧ (0 ≤ v ∧ v ≤ 10)) → Rt (some (.inl (-1))) (bg_SH n, h)) : bg_Ca bg_MS (d + 1) 102 [vR 2, vI p, vI v] (bg_SH n, h) Rt := by
  refine bg_ca (cd := cd_X8_tenths) rfl rfl ?_
  intro X hX
  refine hX _ ?_; conv => whnf
  refine hX _ ?_; conv => whnf
  refine ⟨fun q1 => ?_, fun q1 => ?_⟩
  · try simp (disch := omega) only [bg_w_id, Int.toNat_natCast, rw_land, sh_land, not_true_eq_false, kc0, kc1, kc2, kc3, kc4, kc5, kc6, kc7, kc8, kc9, kc10, kc11, kc12, kc13, kc14, kc15, kc16, kc17, kc18, kc19, kc20, kc21, kc22, kc23, kc24, kc25, kc26, kc27, kc28, kc29, kc30, kc31, kc32, kc33] at q1
    refine hX _ ?_; conv => whnf
    refine hX _ ?_; conv => whnf
    first
    | exact hR0 (fun e => by omega)
    | exact hR1 (by omega) (by omega)
  · try simp (disch := omega) only [bg_w_id, Int.toNat_natCast, rw_land, sh_land, not_true_eq_false, kc0, kc1, kc2, kc3, kc4, kc5, kc6, kc7, kc8, kc9, kc10, kc11, kc12, kc13, kc14, kc15, kc16, kc17, kc18, kc19, kc20, kc21, kc22, kc23, kc24, kc25, kc26, kc27, kc28, kc29, kc30, kc31, kc32, kc33] at q1
    iterate 2 (refine hX _ ?_; conv => whnf)
    refine hX _ ?_; conv => whnf
    refine ⟨fun q6 => ?_, fun q6 => ?_⟩
    · try simp (disch := omega) only [bg_w_id, Int.toNat_natCast, rw_land, sh_land, not_true_eq_false, kc0, kc1, kc2, kc3, kc4, kc5, kc6, kc7, kc8, kc9, kc10, kc11, kc12, kc13, kc14, kc15, kc16, kc17, kc18, kc19, kc20, kc21, kc22, kc23, kc24, kc25, kc26, kc27, kc28, kc29, kc30, kc31, kc32, kc33] at q6
      refine hX _ ?_; conv => whnf
      refine hX _ ?_; conv => whnf
      first
      | exact hR0 (fun e => by omega)
      | exact hR1 (by omega) (by omega)
    · try simp (disch := omega) only [bg_w_id, Int.toNat_natCast, rw_land, sh_land, not_true_eq_false, kc0, kc1, kc2, kc3, kc4, kc5, kc6, kc7, kc8, kc9, kc10, kc11, kc12, kc13, kc14, kc15, kc16, kc17, kc18, kc19, kc20, kc21, kc22, kc23, kc24, kc25, kc26, kc27, kc28, kc29, kc30, kc31, kc32, kc33] at q6
      refine hX _ ?_; conv => whnf
      refine hX _ ?_; conv => whnf
      refine ⟨fun q10 => ?_, fun q10 => ?_⟩
      · try simp (disch := omega) only [bg_w_id, Int.toNat_natCast, rw_land, sh_land, not_true_eq_false, kc0, kc1, kc2, kc3, kc4, kc5, kc6, kc7, kc8, kc9, kc10, kc11, kc12, kc13, kc14, kc15, kc16, kc17, kc18, kc19, kc20, kc21, kc22, kc23, kc24, kc25, kc26, kc27, kc28, kc29, kc30, kc31, kc32, kc33] at q10
        refine hX _ ?_; conv => whnf
        refine hX _ ?_; conv => whnf
        first
        | exact hR0 (fun e => by omega)
        | exact hR1 (by omega) (by omega)
      · try simp (disch := omega) only [bg_w_id, Int.toNat_natCast, rw_land, sh_land, not_true_eq_false, kc0, kc1, kc2, kc3, kc4, kc5, kc6, kc7, kc8, kc9, kc10, kc11, kc12, kc13, kc14, kc15, kc16, kc17, kc18, kc19, kc20, kc21, kc22, kc23, kc24, kc25, kc26, kc27, kc28, kc29, kc30, kc31, kc32, kc33] at q10
        iterate 2 (refine hX _ ?_; conv => whnf)
        refine hX _ ?_; conv => whnf
        refine ⟨fun q16 => ?_, fun q16 => ?_⟩
        · try simp (disch := omega) only [bg_w_id, Int.toNat_natCast, rw_land, sh_land, not_true_eq_false, kc0, kc1, kc2, kc3, kc4, kc5, kc6, kc7, kc8, kc9, kc10, kc11, kc12, kc13, kc14, kc15, kc16, kc17, kc18, kc19, kc20, kc21, kc22, kc23, kc24, kc25, kc26, kc27, kc28, kc29, kc30, kc31, kc32, kc33] at q16
          iterate 3 (refine hX _ ?_; conv => whnf)
          refine hX _ ?_; conv => whnf
          try (simp (disch := omega) only [bg_w_id, Int.toNat_natCast, rw_land, sh_land, not_true_eq_false]; try conv => whnf)
          refine ⟨by first | omega | (simp (disch := omega) only [bg_w_id, Int.toNat_natCast, rw_land, sh_land, not_true_eq_false]; omega), ?_⟩
          iterate 5 (refine hX _ ?_; conv => whnf)
          refine hX _ ?_; conv => whnf
          try (simp (disch := omega) only [bg_w_id, Int.toNat_natCast, rw_land, sh_land, not_true_eq_false]; try conv => whnf)
          refine ⟨by first | omega | (simp (disch := omega) only [bg_w_id, Int.toNat_natCast, rw_land, sh_land, not_true_eq_false]; omega), ?_⟩
          refine hX _ ?_; conv => whnf
          refine hX _ ?_; conv => whnf
          first
          | exact hR0 (fun e => by omega)
          | exact hR1 (by omega) (by omega)
        · try simp (disch := omega) only [bg_w_id, Int.toNat_natCast, rw_land, sh_land, not_true_eq_false, kc0, kc1, kc2, kc3, kc4, kc5, kc6, kc7, kc8, kc9, kc10, kc11, kc12, kc13, kc14, kc15, kc16, kc17, kc18, kc19, kc20, kc21, kc22, kc23, kc24, kc25, kc26, kc27, kc28, kc29, kc30, kc31, kc32, kc33] at q16
          refine hX _ ?_; conv => whnf
          refine hX _ ?_; conv => whnf
          first
          | exact hR0 (fun e => by omega)
          | exact hR1 (by omega) (by omega)
theorem s_cguard (d n : Nat) (g s : Int) (hgi : i32 g) (hs : i32 s) (h : bg_G) (Rt : bg_R) (hR1 : (0 ≤ g ∧ g ≤ 3) → (s = -1 ∨ spC h s) → Rt (some (.inl (h 54 g))) (bg_SH n, bg_up h 54 g s)) (hR0 : ¬ ((0 ≤ g ∧ g ≤ 3) ∧ (s = -1 ∨ spC h s)) → Rt (some (.inl (-100))) (bg_SH n, h)) : bg_Ca bg_MS (d + 2) 98 [vR 2, vI g, vI s] (bg_SH n, h) Rt := by
  refine bg_ca (cd := cd_X8_guard) rfl rfl ?_
  intro X hX
  by_cases c1 : 0 ≤ g ∧ g ≤ 3
  · by_cases c2 : s = -1
    · have hR1 := hR1 c1 (Or.inl c2)
      refine hX _ ?_; conv => whnf
      refine hX _ ?_; conv => whnf
      refine ⟨fun q1 => ?_, fun q1 => ?_⟩
      · exfalso
        (try simp (disch := omega) only [bg_w_id, Int.toNat_natCast, rw_land, sh_land, not_true_eq_false, kc0, kc1, kc2, kc3, kc4, kc5, kc6, kc7, kc8, kc9, kc10, kc11, kc12, kc13, kc14, kc15, kc16, kc17, kc18, kc19, kc20, kc21, kc22, kc23, kc24, kc25, kc26, kc27, kc28, kc29, kc30, kc31, kc32, kc33] at q1) <;> (omega)
      · try simp (disch := omega) only [bg_w_id, Int.toNat_natCast, rw_land, sh_land, not_true_eq_false, kc0, kc1, kc2, kc3, kc4, kc5, kc6, kc7, kc8, kc9, kc10, kc11, kc12, kc13, kc14, kc15, kc16, kc17, kc18, kc19, kc20, kc21, kc22, kc23, kc24, kc25, kc26, kc27, kc28, kc29, kc30, kc31, kc32, kc33] at q1
        iterate 2 (refine hX _ ?_; conv => whnf)
        refine hX _ ?_; conv => whnf
        refine ⟨fun q6 => ?_, fun q6 => ?_⟩
        · exfalso
          (try simp (disch := omega) only [bg_w_id, Int.toNat_natCast, rw_land, sh_land, not_true_eq_false, kc0, kc1, kc2, kc3, kc4, kc5, kc6, kc7, kc8, kc9, kc10, kc11, kc12, kc13, kc14, kc15, kc16, kc17, kc18, kc19, kc20, kc21, kc22, kc23, kc24, kc25, kc26, kc27, kc28, kc29, kc30, kc31, kc32, kc33] at q6) <;> (omega)
        · try simp (disch := omega) only [bg_w_id, Int.toNat_natCast, rw_land, sh_land, not_true_eq_false, kc0, kc1, kc2, kc3, kc4, kc5, kc6, kc7, kc8, kc9, kc10, kc11, kc12, kc13, kc14, kc15, kc16, kc17, kc18, kc19, kc20, kc21, kc22, kc23, kc24, kc25, kc26, kc27, kc28, kc29, kc30, kc31, kc32, kc33] at q6
          iterate 2 (refine hX _ ?_; conv => whnf)
          refine hX _ ?_; conv => whnf
          refine ⟨fun q11 => ?_, fun q11 => ?_⟩
          · try simp (disch := omega) only [bg_w_id, Int.toNat_natCast, rw_land, sh_land, not_true_eq_false, kc0, kc1, kc2, kc3, kc4, kc5, kc6, kc7, kc8, kc9, kc10, kc11, kc12, kc13, kc14, kc15, kc16, kc17, kc18, kc19, kc20, kc21, kc22, kc23, kc24, kc25, kc26, kc27, kc28, kc29, kc30, kc31, kc32, kc33] at q11
            iterate 4 (refine hX _ ?_; conv => whnf)
            refine hX _ ?_; conv => whnf
            try (simp (disch := omega) only [bg_w_id, Int.toNat_natCast, rw_land, sh_land, not_true_eq_false]; try conv => whnf)
            refine ⟨by first | omega | (simp (disch := omega) only [bg_w_id, Int.toNat_natCast, rw_land, sh_land, not_true_eq_false]; omega), ?_⟩
            iterate 6 (refine hX _ ?_; conv => whnf)
            refine hX _ ?_; conv => whnf
            try (simp (disch := omega) only [bg_w_id, Int.toNat_natCast, rw_land, sh_land, not_true_eq_false]; try conv => whnf)
            refine ⟨by first | omega | (simp (disch := omega) only [bg_w_id, Int.toNat_natCast, rw_land, sh_land, not_true_eq_false]; omega), ?_⟩
            refine hX _ ?_; conv => whnf
            refine hX _ ?_; conv => whnf
            exact hR1
          · exfalso
            (try simp (disch := omega) only [bg_w_id, Int.toNat_natCast, rw_land, sh_land, not_true_eq_false, kc0, kc1, kc2, kc3, kc4, kc5, kc6, kc7, kc8, kc9, kc10, kc11, kc12, kc13, kc14, kc15, kc16, kc17, kc18, kc19, kc20, kc21, kc22, kc23, kc24, kc25, kc26, kc27, kc28, kc29, kc30, kc31, kc32, kc33] at q11) <;> (omega)
    · by_cases c3 : spC h s
      · have hR1 := hR1 c1 (Or.inr c3)
        refine hX _ ?_; conv => whnf
        refine hX _ ?_; conv => whnf
        refine ⟨fun q1 => ?_, fun q1 => ?_⟩
        · exfalso
          (try simp (disch := omega) only [bg_w_id, Int.toNat_natCast, rw_land, sh_land, not_true_eq_false, kc0, kc1, kc2, kc3, kc4, kc5, kc6, kc7, kc8, kc9, kc10, kc11, kc12, kc13, kc14, kc15, kc16, kc17, kc18, kc19, kc20, kc21, kc22, kc23, kc24, kc25, kc26, kc27, kc28, kc29, kc30, kc31, kc32, kc33] at q1) <;> (omega)
        · try simp (disch := omega) only [bg_w_id, Int.toNat_natCast, rw_land, sh_land, not_true_eq_false, kc0, kc1, kc2, kc3, kc4, kc5, kc6, kc7, kc8, kc9, kc10, kc11, kc12, kc13, kc14, kc15, kc16, kc17, kc18, kc19, kc20, kc21, kc22, kc23, kc24, kc25, kc26, kc27, kc28, kc29, kc30, kc31, kc32, kc33] at q1
          iterate 2 (refine hX _ ?_; conv => whnf)
          refine hX _ ?_; conv => whnf
          refine ⟨fun q6 => ?_, fun q6 => ?_⟩
          · exfalso
            (try simp (disch := omega) only [bg_w_id, Int.toNat_natCast, rw_land, sh_land, not_true_eq_false, kc0, kc1, kc2, kc3, kc4, kc5, kc6, kc7, kc8, kc9, kc10, kc11, kc12, kc13, kc14, kc15, kc16, kc17, kc18, kc19, kc20, kc21, kc22, kc23, kc24, kc25, kc26, kc27, kc28, kc29, kc30, kc31, kc32, kc33] at q6) <;> (omega)
          · try simp (disch := omega) only [bg_w_id, Int.toNat_natCast, rw_land, sh_land, not_true_eq_false, kc0, kc1, kc2, kc3, kc4, kc5, kc6, kc7, kc8, kc9, kc10, kc11, kc12, kc13, kc14, kc15, kc16, kc17, kc18, kc19, kc20, kc21, kc22, kc23, kc24, kc25, kc26, kc27, kc28, kc29, kc30, kc31, kc32, kc33] at q6
            iterate 2 (refine hX _ ?_; conv => whnf)
            refine hX _ ?_; conv => whnf
            refine ⟨fun q11 => ?_, fun q11 => ?_⟩
            · exfalso
              (try simp (disch := omega) only [bg_w_id, Int.toNat_natCast, rw_land, sh_land, not_true_eq_false, kc0, kc1, kc2, kc3, kc4, kc5, kc6, kc7, kc8, kc9, kc10, kc11, kc12, kc13, kc14, kc15, kc16, kc17, kc18, kc19, kc20, kc21, kc22, kc23, kc24, kc25, kc26, kc27, kc28, kc29, kc30, kc31, kc32, kc33] at q11) <;> (omega)
            · try simp (disch := omega) only [bg_w_id, Int.toNat_natCast, rw_land, sh_land, not_true_eq_false, kc0, kc1, kc2, kc3, kc4, kc5, kc6, kc7, kc8, kc9, kc10, kc11, kc12, kc13, kc14, kc15, kc16, kc17, kc18, kc19, kc20, kc21, kc22, kc23, kc24, kc25, kc26, kc27, kc28, kc29, kc30, kc31, kc32, kc33] at q11
              iterate 3 (refine hX _ ?_; conv => whnf)
              refine hX _ ?_; conv => whnf
              try simp (disch := omega) only [bg_w_id, Int.toNat_natCast, rw_land, sh_land, not_true_eq_false]
              refine s_hs_t d _ _ _ _ c3 ?_
              conv => whnf
              refine hX _ ?_; conv => whnf
              refine ⟨fun q22 => ?_, fun q22 => ?_⟩
              · try simp (disch := omega) only [bg_w_id, Int.toNat_natCast, rw_land, sh_land, not_true_eq_false, kc0, kc1, kc2, kc3, kc4, kc5, kc6, kc7, kc8, kc9, kc10, kc11, kc12, kc13, kc14, kc15, kc16, kc17, kc18, kc19, kc20, kc21, kc22, kc23, kc24, kc25, kc26, kc27, kc28, kc29, kc30, kc31, kc32, kc33] at q22
                iterate 4 (refine hX _ ?_; conv => whnf)
                refine hX _ ?_; conv => whnf
                try (simp (disch := omega) only [bg_w_id, Int.toNat_natCast, rw_land, sh_land, not_true_eq_false]; try conv => whnf)
                refine ⟨by first | omega | (simp (disch := omega) only [bg_w_id, Int.toNat_natCast, rw_land, sh_land, not_true_eq_false]; omega), ?_⟩
                iterate 6 (refine hX _ ?_; conv => whnf)
                refine hX _ ?_; conv => whnf
                try (simp (disch := omega) only [bg_w_id, Int.toNat_natCast, rw_land, sh_land, not_true_eq_false]; try conv => whnf)
                refine ⟨by first | omega | (simp (disch := omega) only [bg_w_id, Int.toNat_natCast, rw_land, sh_land, not_true_eq_false]; omega), ?_⟩
                refine hX _ ?_; conv => whnf
                refine hX _ ?_; conv => whnf
                exact hR1
              · exfalso
                (try simp (disch := omega) only [bg_w_id, Int.toNat_natCast, rw_land, sh_land, not_true_eq_false, kc0, kc1, kc2, kc3, kc4, kc5, kc6, kc7, kc8, kc9, kc10, kc11, kc12, kc13, kc14, kc15, kc16, kc17, kc18, kc19, kc20, kc21, kc22, kc23, kc24, kc25, kc26, kc27, kc28, kc29, kc30, kc31, kc32, kc33] at q22) <;> (omega)
      · refine hX _ ?_; conv => whnf
        refine hX _ ?_; conv => whnf
        refine ⟨fun q1 => ?_, fun q1 => ?_⟩
        · exfalso
          (try simp (disch := omega) only [bg_w_id, Int.toNat_natCast, rw_land, sh_land, not_true_eq_false, kc0, kc1, kc2, kc3, kc4, kc5, kc6, kc7, kc8, kc9, kc10, kc11, kc12, kc13, kc14, kc15, kc16, kc17, kc18, kc19, kc20, kc21, kc22, kc23, kc24, kc25, kc26, kc27, kc28, kc29, kc30, kc31, kc32, kc33] at q1) <;> (omega)
        · try simp (disch := omega) only [bg_w_id, Int.toNat_natCast, rw_land, sh_land, not_true_eq_false, kc0, kc1, kc2, kc3, kc4, kc5, kc6, kc7, kc8, kc9, kc10, kc11, kc12, kc13, kc14, kc15, kc16, kc17, kc18, kc19, kc20, kc21, kc22, kc23, kc24, kc25, kc26, kc27, kc28, kc29, kc30, kc31, kc32, kc33] at q1
          iterate 2 (refine hX _ ?_; conv => whnf)
          refine hX _ ?_; conv => whnf
          refine ⟨fun q6 => ?_, fun q6 => ?_⟩
          · exfalso
            (try simp (disch := omega) only [bg_w_id, Int.toNat_natCast, rw_land, sh_land, not_true_eq_false, kc0, kc1, kc2, kc3, kc4, kc5, kc6, kc7, kc8, kc9, kc10, kc11, kc12, kc13, kc14, kc15, kc16, kc17, kc18, kc19, kc20, kc21, kc22, kc23, kc24, kc25, kc26, kc27, kc28, kc29, kc30, kc31, kc32, kc33] at q6) <;> (omega)
          · try simp (disch := omega) only [bg_w_id, Int.toNat_natCast, rw_land, sh_land, not_true_eq_false, kc0, kc1, kc2, kc3, kc4, kc5, kc6, kc7, kc8, kc9, kc10, kc11, kc12, kc13, kc14, kc15, kc16, kc17, kc18, kc19, kc20, kc21, kc22, kc23, kc24, kc25, kc26, kc27, kc28, kc29, kc30, kc31, kc32, kc33] at q6
            iterate 2 (refine hX _ ?_; conv => whnf)
            refine hX _ ?_; conv => whnf
            refine ⟨fun q11 => ?_, fun q11 => ?_⟩
            · exfalso
              (try simp (disch := omega) only [bg_w_id, Int.toNat_natCast, rw_land, sh_land, not_true_eq_false, kc0, kc1, kc2, kc3, kc4, kc5, kc6, kc7, kc8, kc9, kc10, kc11, kc12, kc13, kc14, kc15, kc16, kc17, kc18, kc19, kc20, kc21, kc22, kc23, kc24, kc25, kc26, kc27, kc28, kc29, kc30, kc31, kc32, kc33] at q11) <;> (omega)
            · try simp (disch := omega) only [bg_w_id, Int.toNat_natCast, rw_land, sh_land, not_true_eq_false, kc0, kc1, kc2, kc3, kc4, kc5, kc6, kc7, kc8, kc9, kc10, kc11, kc12, kc13, kc14, kc15, kc16, kc17, kc18, kc19, kc20, kc21, kc22, kc23, kc24, kc25, kc26, kc27, kc28, kc29, kc30, kc31, kc32, kc33] at q11
              iterate 3 (refine hX _ ?_; conv => whnf)
              refine hX _ ?_; conv => whnf
              try simp (disch := omega) only [bg_w_id, Int.toNat_natCast, rw_land, sh_land, not_true_eq_false]
              refine s_hs_f d _ _ _ _ c3 ?_
              conv => whnf
              refine hX _ ?_; conv => whnf
              refine ⟨fun q22 => ?_, fun q22 => ?_⟩
              · exfalso
                (try simp (disch := omega) only [bg_w_id, Int.toNat_natCast, rw_land, sh_land, not_true_eq_false, kc0, kc1, kc2, kc3, kc4, kc5, kc6, kc7, kc8, kc9, kc10, kc11, kc12, kc13, kc14, kc15, kc16, kc17, kc18, kc19, kc20, kc21, kc22, kc23, kc24, kc25, kc26, kc27, kc28, kc29, kc30, kc31, kc32, kc33] at q22) <;> (omega)
              · try simp (disch := omega) only [bg_w_id, Int.toNat_natCast, rw_land, sh_land, not_true_eq_false, kc0, kc1, kc2, kc3, kc4, kc5, kc6, kc7, kc8, kc9, kc10, kc11, kc12, kc13, kc14, kc15, kc16, kc17, kc18, kc19, kc20, kc21, kc22, kc23, kc24, kc25, kc26, kc27, kc28, kc29, kc30, kc31, kc32, kc33] at q22
                refine hX _ ?_; conv => whnf
                refine hX _ ?_; conv => whnf
                exact hR0 (fun e => e.2.elim c2 c3)
  · refine hX _ ?_; conv => whnf
    refine hX _ ?_; conv => whnf
    refine ⟨fun q1 => ?_, fun q1 => ?_⟩
    · try simp (disch := omega) only [bg_w_id, Int.toNat_natCast, rw_land, sh_land, not_true_eq_false, kc0, kc1, kc2, kc3, kc4, kc5, kc6, kc7, kc8, kc9, kc10, kc11, kc12, kc13, kc14, kc15, kc16, kc17, kc18, kc19, kc20, kc21, kc22, kc23, kc24, kc25, kc26, kc27, kc28, kc29, kc30, kc31, kc32, kc33] at q1
      refine hX _ ?_; conv => whnf
      refine hX _ ?_; conv => whnf
      exact hR0 (fun e => c1 e.1)
    · try simp (disch := omega) only [bg_w_id, Int.toNat_natCast, rw_land, sh_land, not_true_eq_false, kc0, kc1, kc2, kc3, kc4, kc5, kc6, kc7, kc8, kc9, kc10, kc11, kc12, kc13, kc14, kc15, kc16, kc17, kc18, kc19, kc20, kc21, kc22, kc23, kc24, kc25, kc26, kc27, kc28, kc29, kc30, kc31, kc32, kc33] at q1
      iterate 2 (refine hX _ ?_; conv => whnf)
      refine hX _ ?_; conv => whnf
      refine ⟨fun q6 => ?_, fun q6 => ?_⟩
      · try simp (disch := omega) only [bg_w_id, Int.toNat_natCast, rw_land, sh_land, not_true_eq_false, kc0, kc1, kc2, kc3, kc4, kc5, kc6, kc7, kc8, kc9, kc10, kc11, kc12, kc13, kc14, kc15, kc16, kc17, kc18, kc19, kc20, kc21, kc22, kc23, kc24, kc25, kc26, kc27, kc28, kc29, kc30, kc31, kc32, kc33] at q6
        refine hX _ ?_; conv => whnf
        refine hX _ ?_; conv => whnf
        exact hR0 (fun e => c1 e.1)
      · try simp (disch := omega) only [bg_w_id, Int.toNat_natCast, rw_land, sh_land, not_true_eq_false, kc0, kc1, kc2, kc3, kc4, kc5, kc6, kc7, kc8, kc9, kc10, kc11, kc12, kc13, kc14, kc15, kc16, kc17, kc18, kc19, kc20, kc21, kc22, kc23, kc24, kc25, kc26, kc27, kc28, kc29, kc30, kc31, kc32, kc33] at q6
        exfalso; omega
theorem s_ccarrier (d n N : Nat) (c w : Int) (hc : i32 c) (hw : i32 w) (h : bg_G) (hN : h 41 5 = N) (hN4 : N ≤ 400) (Rt : bg_R) (hR1 : (0 ≤ c ∧ c ≤ 3) → (-1 ≤ w ∧ w < N) → Rt (some (.inl (h 55 c))) (bg_SH n, bg_up h 55 c w)) (hR0 : ¬ ((0 ≤ c ∧ c ≤ 3) ∧ (-1 ≤ w ∧ w < N)) → Rt (some (.inl (-100))) (bg_SH n, h)) : bg_Ca bg_MS (d + 1) 99 [vR 2, vI c, vI w] (bg_SH n, h) Rt := by
  refine bg_ca (cd := cd_X8_carrier) rfl rfl ?_
  intro X hX
  refine hX _ ?_; conv => whnf
  refine hX _ ?_; conv => whnf
  refine ⟨fun q1 => ?_, fun q1 => ?_⟩
  · try simp (disch := omega) only [bg_w_id, Int.toNat_natCast, rw_land, sh_land, not_true_eq_false, kc0, kc1, kc2, kc3, kc4, kc5, kc6, kc7, kc8, kc9, kc10, kc11, kc12, kc13, kc14, kc15, kc16, kc17, kc18, kc19, kc20, kc21, kc22, kc23, kc24, kc25, kc26, kc27, kc28, kc29, kc30, kc31, kc32, kc33] at q1
    refine hX _ ?_; conv => whnf
    refine hX _ ?_; conv => whnf
    first
    | exact hR0 (fun e => by omega)
    | exact hR1 (by omega) (by omega)
  · try simp (disch := omega) only [bg_w_id, Int.toNat_natCast, rw_land, sh_land, not_true_eq_false, kc0, kc1, kc2, kc3, kc4, kc5, kc6, kc7, kc8, kc9, kc10, kc11, kc12, kc13, kc14, kc15, kc16, kc17, kc18, kc19, kc20, kc21, kc22, kc23, kc24, kc25, kc26, kc27, kc28, kc29, kc30, kc31, kc32, kc33] at q1
    iterate 2 (refine hX _ ?_; conv => whnf)
    refine hX _ ?_; conv => whnf
    refine ⟨fun q6 => ?_, fun q6 => ?_⟩
    · try simp (disch := omega) only [bg_w_id, Int.toNat_natCast, rw_land, sh_land, not_true_eq_false, kc0, kc1, kc2, kc3, kc4, kc5, kc6, kc7, kc8, kc9, kc10, kc11, kc12, kc13, kc14, kc15, kc16, kc17, kc18, kc19, kc20, kc21, kc22, kc23, kc24, kc25, kc26, kc27, kc28, kc29, kc30, kc31, kc32, kc33] at q6
      refine hX _ ?_; conv => whnf
      refine hX _ ?_; conv => whnf
      first
      | exact hR0 (fun e => by omega)
      | exact hR1 (by omega) (by omega)
    · try simp (disch := omega) only [bg_w_id, Int.toNat_natCast, rw_land, sh_land, not_true_eq_false, kc0, kc1, kc2, kc3, kc4, kc5, kc6, kc7, kc8, kc9, kc10, kc11, kc12, kc13, kc14, kc15, kc16, kc17, kc18, kc19, kc20, kc21, kc22, kc23, kc24, kc25, kc26, kc27, kc28, kc29, kc30, kc31, kc32, kc33] at q6
      iterate 2 (refine hX _ ?_; conv => whnf)
      refine hX _ ?_; conv => whnf
      refine ⟨fun q11 => ?_, fun q11 => ?_⟩
      · try simp (disch := omega) only [bg_w_id, Int.toNat_natCast, rw_land, sh_land, not_true_eq_false, kc0, kc1, kc2, kc3, kc4, kc5, kc6, kc7, kc8, kc9, kc10, kc11, kc12, kc13, kc14, kc15, kc16, kc17, kc18, kc19, kc20, kc21, kc22, kc23, kc24, kc25, kc26, kc27, kc28, kc29, kc30, kc31, kc32, kc33] at q11
        refine hX _ ?_; conv => whnf
        refine hX _ ?_; conv => whnf
        first
        | exact hR0 (fun e => by omega)
        | exact hR1 (by omega) (by omega)
      · try simp (disch := omega) only [bg_w_id, Int.toNat_natCast, rw_land, sh_land, not_true_eq_false, kc0, kc1, kc2, kc3, kc4, kc5, kc6, kc7, kc8, kc9, kc10, kc11, kc12, kc13, kc14, kc15, kc16, kc17, kc18, kc19, kc20, kc21, kc22, kc23, kc24, kc25, kc26, kc27, kc28, kc29, kc30, kc31, kc32, kc33] at q11
        iterate 4 (refine hX _ ?_; conv => whnf)
        try simp only [kc0, kc1, kc2, kc3, kc4, kc5, kc6, kc7, kc8, kc9, kc10, kc11, kc12, kc13, kc14, kc15, kc16, kc17, kc18, kc19, kc20, kc21, kc22, kc23, kc24, kc25, kc26, kc27, kc28, kc29, kc30, kc31, kc32, kc33]
        refine hX _ ?_; conv => whnf
        refine ⟨fun q22 => ?_, fun q22 => ?_⟩
        · try simp (disch := omega) only [bg_w_id, Int.toNat_natCast, rw_land, sh_land, not_true_eq_false, kc0, kc1, kc2, kc3, kc4, kc5, kc6, kc7, kc8, kc9, kc10, kc11, kc12, kc13, kc14, kc15, kc16, kc17, kc18, kc19, kc20, kc21, kc22, kc23, kc24, kc25, kc26, kc27, kc28, kc29, kc30, kc31, kc32, kc33] at q22
          iterate 4 (refine hX _ ?_; conv => whnf)
          refine hX _ ?_; conv => whnf
          try (simp (disch := omega) only [bg_w_id, Int.toNat_natCast, rw_land, sh_land, not_true_eq_false]; try conv => whnf)
          refine ⟨by first | omega | (simp (disch := omega) only [bg_w_id, Int.toNat_natCast, rw_land, sh_land, not_true_eq_false]; omega), ?_⟩
          iterate 6 (refine hX _ ?_; conv => whnf)
          refine hX _ ?_; conv => whnf
          try (simp (disch := omega) only [bg_w_id, Int.toNat_natCast, rw_land, sh_land, not_true_eq_false]; try conv => whnf)
          refine ⟨by first | omega | (simp (disch := omega) only [bg_w_id, Int.toNat_natCast, rw_land, sh_land, not_true_eq_false]; omega), ?_⟩
          refine hX _ ?_; conv => whnf
          refine hX _ ?_; conv => whnf
          first
          | exact hR0 (fun e => by omega)
          | exact hR1 (by omega) (by omega)
        · try simp (disch := omega) only [bg_w_id, Int.toNat_natCast, rw_land, sh_land, not_true_eq_false, kc0, kc1, kc2, kc3, kc4, kc5, kc6, kc7, kc8, kc9, kc10, kc11, kc12, kc13, kc14, kc15, kc16, kc17, kc18, kc19, kc20, kc21, kc22, kc23, kc24, kc25, kc26, kc27, kc28, kc29, kc30, kc31, kc32, kc33] at q22
          refine hX _ ?_; conv => whnf
          refine hX _ ?_; conv => whnf
          first
          | exact hR0 (fun e => by omega)
          | exact hR1 (by omega) (by omega)
theorem s_ccount (d n : Nat) (w : Int) (hw : i32 w) (h : bg_G) (Rt : bg_R) (hR : Rt (some (.inl (if w = 0 then h 22 3 else if w = 1 then h 22 4 else if w = 2 then h 22 5 else if w = 3 then h 22 6 else if w = 4 then h 22 7 else if w = 5 then h 3 3 else if w = 6 then h 2 13 else -1))) (bg_SH n, h)) : bg_Ca bg_MS (d + 1) 107 [vR 2, vI w] (bg_SH n, h) Rt := by
  refine bg_ca (cd := cd_X8_count) rfl rfl ?_
  intro X hX
  refine hX _ ?_; conv => whnf
  refine hX _ ?_; conv => whnf
  refine ⟨fun q1_0 => ?_, fun n1_0 => ?_⟩
  · try simp (disch := omega) only [bg_w_id, Int.toNat_natCast, rw_land, sh_land, not_true_eq_false, kc0, kc1, kc2, kc3, kc4, kc5, kc6, kc7, kc8, kc9, kc10, kc11, kc12, kc13, kc14, kc15, kc16, kc17, kc18, kc19, kc20, kc21, kc22, kc23, kc24, kc25, kc26, kc27, kc28, kc29, kc30, kc31, kc32, kc33] at q1_0
    conv => whnf
    iterate 3 (refine hX _ ?_; conv => whnf)
    try simp only [kc0, kc1, kc2, kc3, kc4, kc5, kc6, kc7, kc8, kc9, kc10, kc11, kc12, kc13, kc14, kc15, kc16, kc17, kc18, kc19, kc20, kc21, kc22, kc23, kc24, kc25, kc26, kc27, kc28, kc29, kc30, kc31, kc32, kc33]
    refine hX _ ?_; conv => whnf
    first
    | (rw [if_pos (by omega)] at hR; exact hR)
    | (rw [if_neg (by omega), if_pos (by omega)] at hR; exact hR)
    | (rw [if_neg (by omega), if_neg (by omega), if_pos (by omega)] at hR; exact hR)
    | (rw [if_neg (by omega), if_neg (by omega), if_neg (by omega), if_pos (by omega)] at hR; exact hR)
    | (rw [if_neg (by omega), if_neg (by omega), if_neg (by omega), if_neg (by omega), if_pos (by omega)] at hR; exact hR)
    | (rw [if_neg (by omega), if_neg (by omega), if_neg (by omega), if_neg (by omega), if_neg (by omega), if_pos (by omega)] at hR; exact hR)
    | (rw [if_neg (by omega), if_neg (by omega), if_neg (by omega), if_neg (by omega), if_neg (by omega), if_neg (by omega), if_pos (by omega)] at hR; exact hR)
    | (rw [if_neg (by omega), if_neg (by omega), if_neg (by omega), if_neg (by omega), if_neg (by omega), if_neg (by omega), if_neg (by omega)] at hR; exact hR)
  try simp (disch := omega) only [bg_w_id, Int.toNat_natCast, rw_land, sh_land, not_true_eq_false, kc0, kc1, kc2, kc3, kc4, kc5, kc6, kc7, kc8, kc9, kc10, kc11, kc12, kc13, kc14, kc15, kc16, kc17, kc18, kc19, kc20, kc21, kc22, kc23, kc24, kc25, kc26, kc27, kc28, kc29, kc30, kc31, kc32, kc33] at n1_0
  conv => whnf
  refine ⟨fun q1_1 => ?_, fun n1_1 => ?_⟩
  · try simp (disch := omega) only [bg_w_id, Int.toNat_natCast, rw_land, sh_land, not_true_eq_false, kc0, kc1, kc2, kc3, kc4, kc5, kc6, kc7, kc8, kc9, kc10, kc11, kc12, kc13, kc14, kc15, kc16, kc17, kc18, kc19, kc20, kc21, kc22, kc23, kc24, kc25, kc26, kc27, kc28, kc29, kc30, kc31, kc32, kc33] at q1_1
    conv => whnf
    iterate 3 (refine hX _ ?_; conv => whnf)
    try simp only [kc0, kc1, kc2, kc3, kc4, kc5, kc6, kc7, kc8, kc9, kc10, kc11, kc12, kc13, kc14, kc15, kc16, kc17, kc18, kc19, kc20, kc21, kc22, kc23, kc24, kc25, kc26, kc27, kc28, kc29, kc30, kc31, kc32, kc33]
    refine hX _ ?_; conv => whnf
    first
    | (rw [if_pos (by omega)] at hR; exact hR)
    | (rw [if_neg (by omega), if_pos (by omega)] at hR; exact hR)
    | (rw [if_neg (by omega), if_neg (by omega), if_pos (by omega)] at hR; exact hR)
    | (rw [if_neg (by omega), if_neg (by omega), if_neg (by omega), if_pos (by omega)] at hR; exact hR)
    | (rw [if_neg (by omega), if_neg (by omega), if_neg (by omega), if_neg (by omega), if_pos (by omega)] at hR; exact hR)
    | (rw [if_neg (by omega), if_neg (by omega), if_neg (by omega), if_neg (by omega), if_neg (by omega), if_pos (by omega)] at hR; exact hR)
    | (rw [if_neg (by omega), if_neg (by omega), if_neg (by omega), if_neg (by omega), if_neg (by omega), if_neg (by omega), if_pos (by omega)] at hR; exact hR)
    | (rw [if_neg (by omega), if_neg (by omega), if_neg (by omega), if_neg (by omega), if_neg (by omega), if_neg (by omega), if_neg (by omega)] at hR; exact hR)
  try simp (disch := omega) only [bg_w_id, Int.toNat_natCast, rw_land, sh_land, not_true_eq_false, kc0, kc1, kc2, kc3, kc4, kc5, kc6, kc7, kc8, kc9, kc10, kc11, kc12, kc13, kc14, kc15, kc16, kc17, kc18, kc19, kc20, kc21, kc22, kc23, kc24, kc25, kc26, kc27, kc28, kc29, kc30, kc31, kc32, kc33] at n1_1
  conv => whnf
  refine ⟨fun q1_2 => ?_, fun n1_2 => ?_⟩
  · try simp (disch := omega) only [bg_w_id, Int.toNat_natCast, rw_land, sh_land, not_true_eq_false, kc0, kc1, kc2, kc3, kc4, kc5, kc6, kc7, kc8, kc9, kc10, kc11, kc12, kc13, kc14, kc15, kc16, kc17, kc18, kc19, kc20, kc21, kc22, kc23, kc24, kc25, kc26, kc27, kc28, kc29, kc30, kc31, kc32, kc33] at q1_2
    conv => whnf
    iterate 3 (refine hX _ ?_; conv => whnf)
    try simp only [kc0, kc1, kc2, kc3, kc4, kc5, kc6, kc7, kc8, kc9, kc10, kc11, kc12, kc13, kc14, kc15, kc16, kc17, kc18, kc19, kc20, kc21, kc22, kc23, kc24, kc25, kc26, kc27, kc28, kc29, kc30, kc31, kc32, kc33]
    refine hX _ ?_; conv => whnf
    first
    | (rw [if_pos (by omega)] at hR; exact hR)
    | (rw [if_neg (by omega), if_pos (by omega)] at hR; exact hR)
    | (rw [if_neg (by omega), if_neg (by omega), if_pos (by omega)] at hR; exact hR)
    | (rw [if_neg (by omega), if_neg (by omega), if_neg (by omega), if_pos (by omega)] at hR; exact hR)
    | (rw [if_neg (by omega), if_neg (by omega), if_neg (by omega), if_neg (by omega), if_pos (by omega)] at hR; exact hR)
    | (rw [if_neg (by omega), if_neg (by omega), if_neg (by omega), if_neg (by omega), if_neg (by omega), if_pos (by omega)] at hR; exact hR)
    | (rw [if_neg (by omega), if_neg (by omega), if_neg (by omega), if_neg (by omega), if_neg (by omega), if_neg (by omega), if_pos (by omega)] at hR; exact hR)
    | (rw [if_neg (by omega), if_neg (by omega), if_neg (by omega), if_neg (by omega), if_neg (by omega), if_neg (by omega), if_neg (by omega)] at hR; exact hR)
  try simp (disch := omega) only [bg_w_id, Int.toNat_natCast, rw_land, sh_land, not_true_eq_false, kc0, kc1, kc2, kc3, kc4, kc5, kc6, kc7, kc8, kc9, kc10, kc11, kc12, kc13, kc14, kc15, kc16, kc17, kc18, kc19, kc20, kc21, kc22, kc23, kc24, kc25, kc26, kc27, kc28, kc29, kc30, kc31, kc32, kc33] at n1_2
  conv => whnf
  refine ⟨fun q1_3 => ?_, fun n1_3 => ?_⟩
  · try simp (disch := omega) only [bg_w_id, Int.toNat_natCast, rw_land, sh_land, not_true_eq_false, kc0, kc1, kc2, kc3, kc4, kc5, kc6, kc7, kc8, kc9, kc10, kc11, kc12, kc13, kc14, kc15, kc16, kc17, kc18, kc19, kc20, kc21, kc22, kc23, kc24, kc25, kc26, kc27, kc28, kc29, kc30, kc31, kc32, kc33] at q1_3
    conv => whnf
    iterate 3 (refine hX _ ?_; conv => whnf)
    try simp only [kc0, kc1, kc2, kc3, kc4, kc5, kc6, kc7, kc8, kc9, kc10, kc11, kc12, kc13, kc14, kc15, kc16, kc17, kc18, kc19, kc20, kc21, kc22, kc23, kc24, kc25, kc26, kc27, kc28, kc29, kc30, kc31, kc32, kc33]
    refine hX _ ?_; conv => whnf
    first
    | (rw [if_pos (by omega)] at hR; exact hR)
    | (rw [if_neg (by omega), if_pos (by omega)] at hR; exact hR)
    | (rw [if_neg (by omega), if_neg (by omega), if_pos (by omega)] at hR; exact hR)
    | (rw [if_neg (by omega), if_neg (by omega), if_neg (by omega), if_pos (by omega)] at hR; exact hR)
    | (rw [if_neg (by omega), if_neg (by omega), if_neg (by omega), if_neg (by omega), if_pos (by omega)] at hR; exact hR)
    | (rw [if_neg (by omega), if_neg (by omega), if_neg (by omega), if_neg (by omega), if_neg (by omega), if_pos (by omega)] at hR; exact hR)
    | (rw [if_neg (by omega), if_neg (by omega), if_neg (by omega), if_neg (by omega), if_neg (by omega), if_neg (by omega), if_pos (by omega)] at hR; exact hR)
    | (rw [if_neg (by omega), if_neg (by omega), if_neg (by omega), if_neg (by omega), if_neg (by omega), if_neg (by omega), if_neg (by omega)] at hR; exact hR)
  try simp (disch := omega) only [bg_w_id, Int.toNat_natCast, rw_land, sh_land, not_true_eq_false, kc0, kc1, kc2, kc3, kc4, kc5, kc6, kc7, kc8, kc9, kc10, kc11, kc12, kc13, kc14, kc15, kc16, kc17, kc18, kc19, kc20, kc21, kc22, kc23, kc24, kc25, kc26, kc27, kc28, kc29, kc30, kc31, kc32, kc33] at n1_3
  conv => whnf
  refine ⟨fun q1_4 => ?_, fun n1_4 => ?_⟩
  · try simp (disch := omega) only [bg_w_id, Int.toNat_natCast, rw_land, sh_land, not_true_eq_false, kc0, kc1, kc2, kc3, kc4, kc5, kc6, kc7, kc8, kc9, kc10, kc11, kc12, kc13, kc14, kc15, kc16, kc17, kc18, kc19, kc20, kc21, kc22, kc23, kc24, kc25, kc26, kc27, kc28, kc29, kc30, kc31, kc32, kc33] at q1_4
    conv => whnf
    iterate 3 (refine hX _ ?_; conv => whnf)
    try simp only [kc0, kc1, kc2, kc3, kc4, kc5, kc6, kc7, kc8, kc9, kc10, kc11, kc12, kc13, kc14, kc15, kc16, kc17, kc18, kc19, kc20, kc21, kc22, kc23, kc24, kc25, kc26, kc27, kc28, kc29, kc30, kc31, kc32, kc33]
    refine hX _ ?_; conv => whnf
    first
    | (rw [if_pos (by omega)] at hR; exact hR)
    | (rw [if_neg (by omega), if_pos (by omega)] at hR; exact hR)
    | (rw [if_neg (by omega), if_neg (by omega), if_pos (by omega)] at hR; exact hR)
    | (rw [if_neg (by omega), if_neg (by omega), if_neg (by omega), if_pos (by omega)] at hR; exact hR)
    | (rw [if_neg (by omega), if_neg (by omega), if_neg (by omega), if_neg (by omega), if_pos (by omega)] at hR; exact hR)
    | (rw [if_neg (by omega), if_neg (by omega), if_neg (by omega), if_neg (by omega), if_neg (by omega), if_pos (by omega)] at hR; exact hR)
    | (rw [if_neg (by omega), if_neg (by omega), if_neg (by omega), if_neg (by omega), if_neg (by omega), if_neg (by omega), if_pos (by omega)] at hR; exact hR)
    | (rw [if_neg (by omega), if_neg (by omega), if_neg (by omega), if_neg (by omega), if_neg (by omega), if_neg (by omega), if_neg (by omega)] at hR; exact hR)
  try simp (disch := omega) only [bg_w_id, Int.toNat_natCast, rw_land, sh_land, not_true_eq_false, kc0, kc1, kc2, kc3, kc4, kc5, kc6, kc7, kc8, kc9, kc10, kc11, kc12, kc13, kc14, kc15, kc16, kc17, kc18, kc19, kc20, kc21, kc22, kc23, kc24, kc25, kc26, kc27, kc28, kc29, kc30, kc31, kc32, kc33] at n1_4
  conv => whnf
  refine ⟨fun q1_5 => ?_, fun n1_5 => ?_⟩
  · try simp (disch := omega) only [bg_w_id, Int.toNat_natCast, rw_land, sh_land, not_true_eq_false, kc0, kc1, kc2, kc3, kc4, kc5, kc6, kc7, kc8, kc9, kc10, kc11, kc12, kc13, kc14, kc15, kc16, kc17, kc18, kc19, kc20, kc21, kc22, kc23, kc24, kc25, kc26, kc27, kc28, kc29, kc30, kc31, kc32, kc33] at q1_5
    conv => whnf
    iterate 3 (refine hX _ ?_; conv => whnf)
    try simp only [kc0, kc1, kc2, kc3, kc4, kc5, kc6, kc7, kc8, kc9, kc10, kc11, kc12, kc13, kc14, kc15, kc16, kc17, kc18, kc19, kc20, kc21, kc22, kc23, kc24, kc25, kc26, kc27, kc28, kc29, kc30, kc31, kc32, kc33]
    refine hX _ ?_; conv => whnf
    first
    | (rw [if_pos (by omega)] at hR; exact hR)
    | (rw [if_neg (by omega), if_pos (by omega)] at hR; exact hR)
    | (rw [if_neg (by omega), if_neg (by omega), if_pos (by omega)] at hR; exact hR)
    | (rw [if_neg (by omega), if_neg (by omega), if_neg (by omega), if_pos (by omega)] at hR; exact hR)
    | (rw [if_neg (by omega), if_neg (by omega), if_neg (by omega), if_neg (by omega), if_pos (by omega)] at hR; exact hR)
    | (rw [if_neg (by omega), if_neg (by omega), if_neg (by omega), if_neg (by omega), if_neg (by omega), if_pos (by omega)] at hR; exact hR)
    | (rw [if_neg (by omega), if_neg (by omega), if_neg (by omega), if_neg (by omega), if_neg (by omega), if_neg (by omega), if_pos (by omega)] at hR; exact hR)
    | (rw [if_neg (by omega), if_neg (by omega), if_neg (by omega), if_neg (by omega), if_neg (by omega), if_neg (by omega), if_neg (by omega)] at hR; exact hR)
  try simp (disch := omega) only [bg_w_id, Int.toNat_natCast, rw_land, sh_land, not_true_eq_false, kc0, kc1, kc2, kc3, kc4, kc5, kc6, kc7, kc8, kc9, kc10, kc11, kc12, kc13, kc14, kc15, kc16, kc17, kc18, kc19, kc20, kc21, kc22, kc23, kc24, kc25, kc26, kc27, kc28, kc29, kc30, kc31, kc32, kc33] at n1_5
  conv => whnf
  refine ⟨fun q1_6 => ?_, fun n1_6 => ?_⟩
  · try simp (disch := omega) only [bg_w_id, Int.toNat_natCast, rw_land, sh_land, not_true_eq_false, kc0, kc1, kc2, kc3, kc4, kc5, kc6, kc7, kc8, kc9, kc10, kc11, kc12, kc13, kc14, kc15, kc16, kc17, kc18, kc19, kc20, kc21, kc22, kc23, kc24, kc25, kc26, kc27, kc28, kc29, kc30, kc31, kc32, kc33] at q1_6
    conv => whnf
    iterate 2 (refine hX _ ?_; conv => whnf)
    try simp only [kc0, kc1, kc2, kc3, kc4, kc5, kc6, kc7, kc8, kc9, kc10, kc11, kc12, kc13, kc14, kc15, kc16, kc17, kc18, kc19, kc20, kc21, kc22, kc23, kc24, kc25, kc26, kc27, kc28, kc29, kc30, kc31, kc32, kc33]
    refine hX _ ?_; conv => whnf
    first
    | (rw [if_pos (by omega)] at hR; exact hR)
    | (rw [if_neg (by omega), if_pos (by omega)] at hR; exact hR)
    | (rw [if_neg (by omega), if_neg (by omega), if_pos (by omega)] at hR; exact hR)
    | (rw [if_neg (by omega), if_neg (by omega), if_neg (by omega), if_pos (by omega)] at hR; exact hR)
    | (rw [if_neg (by omega), if_neg (by omega), if_neg (by omega), if_neg (by omega), if_pos (by omega)] at hR; exact hR)
    | (rw [if_neg (by omega), if_neg (by omega), if_neg (by omega), if_neg (by omega), if_neg (by omega), if_pos (by omega)] at hR; exact hR)
    | (rw [if_neg (by omega), if_neg (by omega), if_neg (by omega), if_neg (by omega), if_neg (by omega), if_neg (by omega), if_pos (by omega)] at hR; exact hR)
    | (rw [if_neg (by omega), if_neg (by omega), if_neg (by omega), if_neg (by omega), if_neg (by omega), if_neg (by omega), if_neg (by omega)] at hR; exact hR)
  try simp (disch := omega) only [bg_w_id, Int.toNat_natCast, rw_land, sh_land, not_true_eq_false, kc0, kc1, kc2, kc3, kc4, kc5, kc6, kc7, kc8, kc9, kc10, kc11, kc12, kc13, kc14, kc15, kc16, kc17, kc18, kc19, kc20, kc21, kc22, kc23, kc24, kc25, kc26, kc27, kc28, kc29, kc30, kc31, kc32, kc33] at n1_6
  conv => whnf
  refine hX _ ?_; conv => whnf
  refine hX _ ?_; conv => whnf
  first
  | (rw [if_pos (by omega)] at hR; exact hR)
  | (rw [if_neg (by omega), if_pos (by omega)] at hR; exact hR)
  | (rw [if_neg (by omega), if_neg (by omega), if_pos (by omega)] at hR; exact hR)
  | (rw [if_neg (by omega), if_neg (by omega), if_neg (by omega), if_pos (by omega)] at hR; exact hR)
  | (rw [if_neg (by omega), if_neg (by omega), if_neg (by omega), if_neg (by omega), if_pos (by omega)] at hR; exact hR)
  | (rw [if_neg (by omega), if_neg (by omega), if_neg (by omega), if_neg (by omega), if_neg (by omega), if_pos (by omega)] at hR; exact hR)
  | (rw [if_neg (by omega), if_neg (by omega), if_neg (by omega), if_neg (by omega), if_neg (by omega), if_neg (by omega), if_pos (by omega)] at hR; exact hR)
  | (rw [if_neg (by omega), if_neg (by omega), if_neg (by omega), if_neg (by omega), if_neg (by omega), if_neg (by omega), if_neg (by omega)] at hR; exact hR)
theorem s_cwipe (d n : Nat) (h : bg_G) (Rt : bg_R) (hR : Rt (some (.inl (h 3 3))) (bg_SH n, bg_up h 3 3 0)) : bg_Ca bg_MS (d + 1) 79 [vR 2] (bg_SH n, h) Rt := by
  refine bg_ca (cd := cd_X8_wipe) rfl rfl ?_
  intro X hX
  iterate 9 (refine hX _ ?_; conv => whnf)
  try simp only [kc0, kc1, kc2, kc3, kc4, kc5, kc6, kc7, kc8, kc9, kc10, kc11, kc12, kc13, kc14, kc15, kc16, kc17, kc18, kc19, kc20, kc21, kc22, kc23, kc24, kc25, kc26, kc27, kc28, kc29, kc30, kc31, kc32, kc33]
  refine hX _ ?_; conv => whnf
  exact hR
theorem netC_rg {h : bg_G} {k : Int} {N : Nat} (hN : N ≤ 12) (hl : ∀ p : Nat, p < 12 → 0 ≤ h 73 p ∧ h 73 p ≤ 99) : -1188 ≤ sm N (netC h k) ∧ sm N (netC h k) ≤ 1188 := by
  have := sm_ab (n := N) (f := netC h k) (B := 99) (fun i hi => by
    have := hl i (by omega)
    unfold netC
    split <;> split <;> omega)
  omega
theorem s_cjudge (d n : Nat) (s : Int) (h : bg_G) (ho : okC h) (hl : ∀ p : Nat, p < 12 → 0 ≤ h 73 p ∧ h 73 p ≤ 99) (Rt : bg_R) (hR1 : spC h s → Rt (some (.inl (jdg (fun p : Nat => bearC h (heldC h s) p 0) (fun p : Nat => h 73 p) (fun k => sm (h 22 3).toNat (netC h k))))) (bg_SH n, h)) (hR0 : ¬ spC h s → Rt (some (.inl (-1))) (bg_SH n, h)) : bg_Ca bg_MS (d + 3) 87 [vR 2, vI s] (bg_SH n, h) Rt := by
  have hn := ho.1.1
  refine bg_ca (cd := cd_X8_judge) rfl rfl ?_
  intro X hX
  by_cases c1 : spC h s
  · have hR1 := hR1 c1
    obtain ⟨br, hbr⟩ : ∃ br : Nat → Int, br = fun p : Nat => bearC h (heldC h s) p 0 := ⟨_, rfl⟩
    obtain ⟨ld, hld⟩ : ∃ ld : Nat → Int, ld = fun p : Nat => h 73 p := ⟨_, rfl⟩
    obtain ⟨cm, hcm⟩ : ∃ cm : Int → Int, cm = fun k => sm (h 22 3).toNat (netC h k) := ⟨_, rfl⟩
    rw [← hbr, ← hld, ← hcm] at hR1
    have ecm : ∀ k, sm (h 22 3).toNat (netC h k) = cm k := fun k => by rw [hcm]
    have eld : ∀ p : Nat, h 73 p = ld p := fun p => by rw [hld]
    have ebr : ∀ p : Nat, bearC h (heldC h s) p 0 = br p := fun p => by rw [hbr]
    have rcm : ∀ k, -1188 ≤ cm k ∧ cm k ≤ 1188 := fun k => by rw [← ecm]; exact netC_rg (by omega) hl
    have rld : ∀ p : Nat, p < 12 → 0 ≤ ld p ∧ ld p ≤ 99 := fun p hp => by rw [← eld]; exact hl p hp
    have hbC : ∀ p : Nat, p < 12 → 0 ≤ br p ∧ br p ≤ 100 := fun p hp => by rw [← ebr]; exact bearC_rg ho hp (by omega)
    have l2 : ∀ k, k ≤ 7 → 1 ≤ k → Rt (some (.inl (ff (fun k => cm k ≠ 0) (fun k => 100 + (k : Int)) (if cm 7 < 0 then 199 else 200 + cm 7) (7 - k) k))) (bg_SH n, h) → ∀ j2 : Option bg_V, X (59, [oR 2, oI s, j2, oI (k : Int)], [], (bg_SH n, h), (0, 0)) := by
      refine lp_up 7 _ ?_ (fun k hk ih => ?_)
      · intro _ hR j2
        have r7 := rcm 7
        have hR : Rt (some (.inl (if cm 7 < 0 then 199 else 200 + cm 7))) (bg_SH n, h) := hR
        iterate 2 (refine hX _ ?_; conv => whnf)
        refine hX _ ?_; conv => whnf
        refine ⟨fun q62 => ?_, fun q62 => ?_⟩
        · try simp (disch := omega) only [bg_w_id, Int.toNat_natCast, rw_land, sh_land, not_true_eq_false, kc0, kc1, kc2, kc3, kc4, kc5, kc6, kc7, kc8, kc9, kc10, kc11, kc12, kc13, kc14, kc15, kc16, kc17, kc18, kc19, kc20, kc21, kc22, kc23, kc24, kc25, kc26, kc27, kc28, kc29, kc30, kc31, kc32, kc33] at q62
          iterate 5 (refine hX _ ?_; conv => whnf)
          refine hX _ ?_; conv => whnf
          try simp (disch := omega) only [bg_w_id, Int.toNat_natCast, rw_land, sh_land, not_true_eq_false]
          refine s_comes (d + 1) n 7 (by omega) h ho _ ?_
          rw [ecm]
          conv => whnf
          iterate 2 (refine hX _ ?_; conv => whnf)
          refine hX _ ?_; conv => whnf
          refine ⟨fun q106 => ?_, fun q106 => ?_⟩
          · try simp (disch := omega) only [bg_w_id, Int.toNat_natCast, rw_land, sh_land, not_true_eq_false, kc0, kc1, kc2, kc3, kc4, kc5, kc6, kc7, kc8, kc9, kc10, kc11, kc12, kc13, kc14, kc15, kc16, kc17, kc18, kc19, kc20, kc21, kc22, kc23, kc24, kc25, kc26, kc27, kc28, kc29, kc30, kc31, kc32, kc33] at q106
            iterate 3 (refine hX _ ?_; conv => whnf)
            refine hX _ ?_; conv => whnf
            first
            | (rw [if_neg (by omega)] at hR; exact hR)
            | (rw [if_pos (by omega)] at hR; exact hR)
          · try simp (disch := omega) only [bg_w_id, Int.toNat_natCast, rw_land, sh_land, not_true_eq_false, kc0, kc1, kc2, kc3, kc4, kc5, kc6, kc7, kc8, kc9, kc10, kc11, kc12, kc13, kc14, kc15, kc16, kc17, kc18, kc19, kc20, kc21, kc22, kc23, kc24, kc25, kc26, kc27, kc28, kc29, kc30, kc31, kc32, kc33] at q106
            iterate 2 (refine hX _ ?_; conv => whnf)
            refine hX _ ?_; conv => whnf
            first
            | (rw [if_neg (by omega)] at hR; exact hR)
            | (rw [if_pos (by omega)] at hR; exact hR)
        · exfalso
          (try simp (disch := omega) only [bg_w_id, Int.toNat_natCast, rw_land, sh_land, not_true_eq_false, kc0, kc1, kc2, kc3, kc4, kc5, kc6, kc7, kc8, kc9, kc10, kc11, kc12, kc13, kc14, kc15, kc16, kc17, kc18, kc19, kc20, kc21, kc22, kc23, kc24, kc25, kc26, kc27, kc28, kc29, kc30, kc31, kc32, kc33] at q62) <;> (omega)
      · intro h1 hR j2
        have rk := rcm k
        rw [show 7 - k = (7 - (k + 1)) + 1 by omega] at hR
        unfold ff at hR
        iterate 2 (refine hX _ ?_; conv => whnf)
        refine hX _ ?_; conv => whnf
        refine ⟨fun q62 => ?_, fun q62 => ?_⟩
        · exfalso
          (try simp (disch := omega) only [bg_w_id, Int.toNat_natCast, rw_land, sh_land, not_true_eq_false, kc0, kc1, kc2, kc3, kc4, kc5, kc6, kc7, kc8, kc9, kc10, kc11, kc12, kc13, kc14, kc15, kc16, kc17, kc18, kc19, kc20, kc21, kc22, kc23, kc24, kc25, kc26, kc27, kc28, kc29, kc30, kc31, kc32, kc33] at q62) <;> (omega)
        · try simp (disch := omega) only [bg_w_id, Int.toNat_natCast, rw_land, sh_land, not_true_eq_false, kc0, kc1, kc2, kc3, kc4, kc5, kc6, kc7, kc8, kc9, kc10, kc11, kc12, kc13, kc14, kc15, kc16, kc17, kc18, kc19, kc20, kc21, kc22, kc23, kc24, kc25, kc26, kc27, kc28, kc29, kc30, kc31, kc32, kc33] at q62
          iterate 5 (refine hX _ ?_; conv => whnf)
          refine hX _ ?_; conv => whnf
          try simp (disch := omega) only [bg_w_id, Int.toNat_natCast, rw_land, sh_land, not_true_eq_false]
          refine s_comes (d + 1) n k (by omega) h ho _ ?_
          rw [ecm]
          conv => whnf
          refine hX _ ?_; conv => whnf
          refine ⟨fun q77 => ?_, fun q77 => ?_⟩
          · try simp (disch := omega) only [bg_w_id, Int.toNat_natCast, rw_land, sh_land, not_true_eq_false, kc0, kc1, kc2, kc3, kc4, kc5, kc6, kc7, kc8, kc9, kc10, kc11, kc12, kc13, kc14, kc15, kc16, kc17, kc18, kc19, kc20, kc21, kc22, kc23, kc24, kc25, kc26, kc27, kc28, kc29, kc30, kc31, kc32, kc33] at q77
            iterate 2 (refine hX _ ?_; conv => whnf)
            rw [if_neg (by omega)] at hR
            exact ih (by omega) hR _
          · try simp (disch := omega) only [bg_w_id, Int.toNat_natCast, rw_land, sh_land, not_true_eq_false, kc0, kc1, kc2, kc3, kc4, kc5, kc6, kc7, kc8, kc9, kc10, kc11, kc12, kc13, kc14, kc15, kc16, kc17, kc18, kc19, kc20, kc21, kc22, kc23, kc24, kc25, kc26, kc27, kc28, kc29, kc30, kc31, kc32, kc33] at q77
            iterate 3 (refine hX _ ?_; conv => whnf)
            refine hX _ ?_; conv => whnf
            rw [if_pos q77] at hR
            exact hR
    have l1 : ∀ p, p ≤ 12 → Rt (some (.inl (ff (fun p => br p < ld p) (fun p => (p : Int)) (ff (fun k => cm k ≠ 0) (fun k => 100 + (k : Int)) (if cm 7 < 0 then 199 else 200 + cm 7) 6 1) (12 - p) p))) (bg_SH n, h) → X (24, [oR 2, oI s, oI (heldC h s), oI (p : Int)], [], (bg_SH n, h), (0, 0)) := by
      refine lp_up 12 _ ?_ (fun p hp ih => ?_)
      · intro hR
        iterate 2 (refine hX _ ?_; conv => whnf)
        refine hX _ ?_; conv => whnf
        refine ⟨fun q27 => ?_, fun q27 => ?_⟩
        · try simp (disch := omega) only [bg_w_id, Int.toNat_natCast, rw_land, sh_land, not_true_eq_false, kc0, kc1, kc2, kc3, kc4, kc5, kc6, kc7, kc8, kc9, kc10, kc11, kc12, kc13, kc14, kc15, kc16, kc17, kc18, kc19, kc20, kc21, kc22, kc23, kc24, kc25, kc26, kc27, kc28, kc29, kc30, kc31, kc32, kc33] at q27
          iterate 2 (refine hX _ ?_; conv => whnf)
          exact l2 1 (by omega) (by omega) hR _
        · exfalso
          (try simp (disch := omega) only [bg_w_id, Int.toNat_natCast, rw_land, sh_land, not_true_eq_false, kc0, kc1, kc2, kc3, kc4, kc5, kc6, kc7, kc8, kc9, kc10, kc11, kc12, kc13, kc14, kc15, kc16, kc17, kc18, kc19, kc20, kc21, kc22, kc23, kc24, kc25, kc26, kc27, kc28, kc29, kc30, kc31, kc32, kc33] at q27) <;> (omega)
      · intro hR
        have rl := rld p hp
        have rb := hbC p hp
        rw [show 12 - p = (12 - (p + 1)) + 1 by omega] at hR
        unfold ff at hR
        iterate 2 (refine hX _ ?_; conv => whnf)
        refine hX _ ?_; conv => whnf
        refine ⟨fun q27 => ?_, fun q27 => ?_⟩
        · exfalso
          (try simp (disch := omega) only [bg_w_id, Int.toNat_natCast, rw_land, sh_land, not_true_eq_false, eld, kc0, kc1, kc2, kc3, kc4, kc5, kc6, kc7, kc8, kc9, kc10, kc11, kc12, kc13, kc14, kc15, kc16, kc17, kc18, kc19, kc20, kc21, kc22, kc23, kc24, kc25, kc26, kc27, kc28, kc29, kc30, kc31, kc32, kc33] at q27) <;> (omega)
        · try simp (disch := omega) only [bg_w_id, Int.toNat_natCast, rw_land, sh_land, not_true_eq_false, eld, kc0, kc1, kc2, kc3, kc4, kc5, kc6, kc7, kc8, kc9, kc10, kc11, kc12, kc13, kc14, kc15, kc16, kc17, kc18, kc19, kc20, kc21, kc22, kc23, kc24, kc25, kc26, kc27, kc28, kc29, kc30, kc31, kc32, kc33] at q27
          iterate 3 (refine hX _ ?_; conv => whnf)
          refine hX _ ?_; conv => whnf
          try (simp (disch := omega) only [bg_w_id, Int.toNat_natCast, rw_land, sh_land, not_true_eq_false, eld]; try conv => whnf)
          refine ⟨by first | omega | (simp (disch := omega) only [bg_w_id, Int.toNat_natCast, rw_land, sh_land, not_true_eq_false, eld]; omega), ?_⟩
          iterate 5 (refine hX _ ?_; conv => whnf)
          refine hX _ ?_; conv => whnf
          try simp (disch := omega) only [bg_w_id, Int.toNat_natCast, rw_land, sh_land, not_true_eq_false, eld]
          refine s_bearing d _ _ (by omega) _ _ _ _ ?_
          rw [ebr]
          conv => whnf
          refine hX _ ?_; conv => whnf
          refine ⟨fun q46 => ?_, fun q46 => ?_⟩
          · try simp (disch := omega) only [bg_w_id, Int.toNat_natCast, rw_land, sh_land, not_true_eq_false, eld, kc0, kc1, kc2, kc3, kc4, kc5, kc6, kc7, kc8, kc9, kc10, kc11, kc12, kc13, kc14, kc15, kc16, kc17, kc18, kc19, kc20, kc21, kc22, kc23, kc24, kc25, kc26, kc27, kc28, kc29, kc30, kc31, kc32, kc33] at q46
            iterate 2 (refine hX _ ?_; conv => whnf)
            rw [if_neg (by omega)] at hR
            exact ih hR
          · try simp (disch := omega) only [bg_w_id, Int.toNat_natCast, rw_land, sh_land, not_true_eq_false, eld, kc0, kc1, kc2, kc3, kc4, kc5, kc6, kc7, kc8, kc9, kc10, kc11, kc12, kc13, kc14, kc15, kc16, kc17, kc18, kc19, kc20, kc21, kc22, kc23, kc24, kc25, kc26, kc27, kc28, kc29, kc30, kc31, kc32, kc33] at q46
            refine hX _ ?_; conv => whnf
            refine hX _ ?_; conv => whnf
            rw [if_pos (by omega)] at hR
            exact hR
    iterate 3 (refine hX _ ?_; conv => whnf)
    refine hX _ ?_; conv => whnf
    try simp (disch := omega) only [bg_w_id, Int.toNat_natCast, rw_land, sh_land, not_true_eq_false]
    refine s_hs_t (d + 1) _ _ _ _ c1 ?_
    conv => whnf
    refine hX _ ?_; conv => whnf
    refine ⟨fun q8 => ?_, fun q8 => ?_⟩
    · try simp (disch := omega) only [bg_w_id, Int.toNat_natCast, rw_land, sh_land, not_true_eq_false, kc0, kc1, kc2, kc3, kc4, kc5, kc6, kc7, kc8, kc9, kc10, kc11, kc12, kc13, kc14, kc15, kc16, kc17, kc18, kc19, kc20, kc21, kc22, kc23, kc24, kc25, kc26, kc27, kc28, kc29, kc30, kc31, kc32, kc33] at q8
      iterate 3 (refine hX _ ?_; conv => whnf)
      refine hX _ ?_; conv => whnf
      try simp (disch := omega) only [bg_w_id, Int.toNat_natCast, rw_land, sh_land, not_true_eq_false]
      refine s_heldBy (d + 1) _ _ _ _ ?_
      conv => whnf
      iterate 3 (refine hX _ ?_; conv => whnf)
      exact l1 0 (by omega) hR1
    · exfalso
      (try simp (disch := omega) only [bg_w_id, Int.toNat_natCast, rw_land, sh_land, not_true_eq_false, kc0, kc1, kc2, kc3, kc4, kc5, kc6, kc7, kc8, kc9, kc10, kc11, kc12, kc13, kc14, kc15, kc16, kc17, kc18, kc19, kc20, kc21, kc22, kc23, kc24, kc25, kc26, kc27, kc28, kc29, kc30, kc31, kc32, kc33] at q8) <;> (omega)
  · iterate 3 (refine hX _ ?_; conv => whnf)
    refine hX _ ?_; conv => whnf
    try simp (disch := omega) only [bg_w_id, Int.toNat_natCast, rw_land, sh_land, not_true_eq_false]
    refine s_hs_f (d + 1) _ _ _ _ c1 ?_
    conv => whnf
    refine hX _ ?_; conv => whnf
    refine ⟨fun q8 => ?_, fun q8 => ?_⟩
    · exfalso
      (try simp (disch := omega) only [bg_w_id, Int.toNat_natCast, rw_land, sh_land, not_true_eq_false, kc0, kc1, kc2, kc3, kc4, kc5, kc6, kc7, kc8, kc9, kc10, kc11, kc12, kc13, kc14, kc15, kc16, kc17, kc18, kc19, kc20, kc21, kc22, kc23, kc24, kc25, kc26, kc27, kc28, kc29, kc30, kc31, kc32, kc33] at q8) <;> (omega)
    · try simp (disch := omega) only [bg_w_id, Int.toNat_natCast, rw_land, sh_land, not_true_eq_false, kc0, kc1, kc2, kc3, kc4, kc5, kc6, kc7, kc8, kc9, kc10, kc11, kc12, kc13, kc14, kc15, kc16, kc17, kc18, kc19, kc20, kc21, kc22, kc23, kc24, kc25, kc26, kc27, kc28, kc29, kc30, kc31, kc32, kc33] at q8
      refine hX _ ?_; conv => whnf
      refine hX _ ?_; conv => whnf
      exact hR0 c1
