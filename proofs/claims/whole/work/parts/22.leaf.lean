def fo : Nat → (Nat → Int → Int) → Int → Int
  | 0, _, a => a
  | n + 1, f, a => f n (fo n f a)
/-- what the class's land holds is in range -/
def okC (h : bg_G) : Prop := ((0 ≤ h 22 3 ∧ h 22 3 ≤ 12) ∧ (0 ≤ h 22 4 ∧ h 22 4 ≤ 3) ∧ (0 ≤ h 22 5 ∧ h 22 5 ≤ 300) ∧ (0 ≤ h 22 6 ∧ h 22 6 ≤ 999) ∧ (0 ≤ h 22 7 ∧ h 22 7 ≤ 999)) ∧ (∀ p : Nat, p < 12 → (0 ≤ h (24 + p) 0 ∧ h (24 + p) 0 ≤ 7) ∧ (0 ≤ h (24 + p) 1 ∧ h (24 + p) 1 ≤ 7) ∧ (0 ≤ h (24 + p) 2 ∧ h (24 + p) 2 ≤ 99) ∧ (0 ≤ h (24 + p) 3 ∧ h (24 + p) 3 ≤ 99) ∧ (0 ≤ h (24 + p) 4 ∧ h (24 + p) 4 ≤ 20) ∧ (0 ≤ h (24 + p) 5 ∧ h (24 + p) 5 ≤ 100) ∧ (0 ≤ h (24 + p) 6 ∧ h (24 + p) 6 ≤ 99)) ∧ (∀ t : Nat, t < 3 → (0 ≤ h 36 t ∧ h 36 t ≤ 4095) ∧ (0 ≤ h 37 t ∧ h 37 t ≤ 20))
/-- what the model's land (book 0) holds is in range -/
def okM (h : bg_G) : Prop := ((0 ≤ h 117 0 ∧ h 117 0 ≤ 12) ∧ (0 ≤ h 119 0 ∧ h 119 0 ≤ 3) ∧ (0 ≤ h 121 0 ∧ h 121 0 ≤ 300) ∧ (0 ≤ h 121 1 ∧ h 121 1 ≤ 999) ∧ (0 ≤ h 121 2 ∧ h 121 2 ≤ 999)) ∧ (∀ p : Nat, p < 12 → (0 ≤ h 118 (7 * p) ∧ h 118 (7 * p) ≤ 7) ∧ (0 ≤ h 118 (7 * p + 1) ∧ h 118 (7 * p + 1) ≤ 7) ∧ (0 ≤ h 118 (7 * p + 2) ∧ h 118 (7 * p + 2) ≤ 99) ∧ (0 ≤ h 118 (7 * p + 3) ∧ h 118 (7 * p + 3) ≤ 99) ∧ (0 ≤ h 118 (7 * p + 4) ∧ h 118 (7 * p + 4) ≤ 20) ∧ (0 ≤ h 118 (7 * p + 5) ∧ h 118 (7 * p + 5) ≤ 100) ∧ (0 ≤ h 118 (7 * p + 6) ∧ h 118 (7 * p + 6) ≤ 99)) ∧ (∀ t : Nat, t < 3 → (0 ≤ h 120 (3 * t) ∧ h 120 (3 * t) ≤ 11) ∧ (0 ≤ h 120 (3 * t + 1) ∧ h 120 (3 * t + 1) ≤ 11) ∧ (0 ≤ h 120 (3 * t + 2) ∧ h 120 (3 * t + 2) ≤ 20))
def heldC (h : bg_G) (s : Int) : Int := fo 3 (fun t a => if bt s (12 + t) = 0 then a else bg_or a (h 36 t)) (bg_and s 4095)
def heldM (h : bg_G) (s : Int) : Int := fo 3 (fun t a => bg_or a (if bt s (12 + t) = 0 then 0 else bg_or (bg_shl 1 (h 120 (3 * t))) (bg_shl 1 (h 120 (3 * t + 1))))) (bg_and s 4095)
theorem s_heldBy (d n : Nat) (s : Int) (h : bg_G) (Rt : bg_R) (hR : Rt (some (.inl (heldC h s))) (bg_SH n, h)) : bg_Ca bg_MS (d + 1) 39 [vR 22, vI s] (bg_SH n, h) Rt := by
  refine bg_ca (cd := cd_X2_heldBy) rfl rfl ?_
  intro X hX
  have l1 : ∀ i, i ≤ 3 → X (8, [oR 22, oI s, oI (fo i (fun t a => if bt s (12 + t) = 0 then a else bg_or a (h 36 t)) (bg_and s 4095)), oI (i : Int)], [], (bg_SH n, h), (0, 0)) := by
    refine lp_up 3 _ ?_ (fun i hi ih => ?_)
    · iterate 2 (refine hX _ ?_; conv => whnf)
      refine hX _ ?_; conv => whnf
      refine ⟨fun q10 => ?_, fun q10 => ?_⟩
      · try simp (disch := omega) only [bg_w_id, Int.toNat_natCast, rw_land, sh_land, not_true_eq_false, kc0, kc1, kc2, kc3, kc4, kc5, kc6, kc7, kc8, kc9, kc10, kc11, kc12, kc13, kc14, kc15, kc16, kc17, kc18, kc19, kc20, kc21, kc22, kc23, kc24, kc25, kc26, kc27, kc28, kc29, kc30, kc31, kc32, kc33] at q10
        refine hX _ ?_; conv => whnf
        refine hX _ ?_; conv => whnf
        exact hR
      · exfalso
        (try simp (disch := omega) only [bg_w_id, Int.toNat_natCast, rw_land, sh_land, not_true_eq_false, kc0, kc1, kc2, kc3, kc4, kc5, kc6, kc7, kc8, kc9, kc10, kc11, kc12, kc13, kc14, kc15, kc16, kc17, kc18, kc19, kc20, kc21, kc22, kc23, kc24, kc25, kc26, kc27, kc28, kc29, kc30, kc31, kc32, kc33] at q10) <;> (omega)
    · iterate 2 (refine hX _ ?_; conv => whnf)
      refine hX _ ?_; conv => whnf
      refine ⟨fun q10 => ?_, fun q10 => ?_⟩
      · exfalso
        (try simp (disch := omega) only [bg_w_id, Int.toNat_natCast, rw_land, sh_land, not_true_eq_false, kc0, kc1, kc2, kc3, kc4, kc5, kc6, kc7, kc8, kc9, kc10, kc11, kc12, kc13, kc14, kc15, kc16, kc17, kc18, kc19, kc20, kc21, kc22, kc23, kc24, kc25, kc26, kc27, kc28, kc29, kc30, kc31, kc32, kc33] at q10) <;> (omega)
      · try simp (disch := omega) only [bg_w_id, Int.toNat_natCast, rw_land, sh_land, not_true_eq_false, kc0, kc1, kc2, kc3, kc4, kc5, kc6, kc7, kc8, kc9, kc10, kc11, kc12, kc13, kc14, kc15, kc16, kc17, kc18, kc19, kc20, kc21, kc22, kc23, kc24, kc25, kc26, kc27, kc28, kc29, kc30, kc31, kc32, kc33] at q10
        iterate 7 (refine hX _ ?_; conv => whnf)
        refine hX _ ?_; conv => whnf
        refine ⟨fun q21 => ?_, fun q21 => ?_⟩
        · try simp (disch := omega) only [bg_w_id, Int.toNat_natCast, rw_land, sh_land, not_true_eq_false, kc0, kc1, kc2, kc3, kc4, kc5, kc6, kc7, kc8, kc9, kc10, kc11, kc12, kc13, kc14, kc15, kc16, kc17, kc18, kc19, kc20, kc21, kc22, kc23, kc24, kc25, kc26, kc27, kc28, kc29, kc30, kc31, kc32, kc33] at q21
          have q21 : bg_w (bt s (12 + i)) = 0 := q21
          rw [bt_w] at q21
          iterate 2 (refine hX _ ?_; conv => whnf)
          rw [show fo (i + 1) (fun t a => if bt s (12 + t) = 0 then a else bg_or a (h 36 t)) (bg_and s 4095) = (if bt s (12 + i) = 0 then fo i (fun t a => if bt s (12 + t) = 0 then a else bg_or a (h 36 t)) (bg_and s 4095) else bg_or (fo i (fun t a => if bt s (12 + t) = 0 then a else bg_or a (h 36 t)) (bg_and s 4095)) (h 36 i)) from rfl] at ih
          first | (rw [if_pos q21] at ih; exact ih) | (rw [if_neg q21] at ih; exact ih)
        · try simp (disch := omega) only [bg_w_id, Int.toNat_natCast, rw_land, sh_land, not_true_eq_false, kc0, kc1, kc2, kc3, kc4, kc5, kc6, kc7, kc8, kc9, kc10, kc11, kc12, kc13, kc14, kc15, kc16, kc17, kc18, kc19, kc20, kc21, kc22, kc23, kc24, kc25, kc26, kc27, kc28, kc29, kc30, kc31, kc32, kc33] at q21
          have q21 : ¬ bg_w (bt s (12 + i)) = 0 := q21
          rw [bt_w] at q21
          iterate 4 (refine hX _ ?_; conv => whnf)
          refine hX _ ?_; conv => whnf
          try (simp (disch := omega) only [bg_w_id, Int.toNat_natCast, rw_land, sh_land, not_true_eq_false]; try conv => whnf)
          refine ⟨by first | omega | (simp (disch := omega) only [bg_w_id, Int.toNat_natCast, rw_land, sh_land, not_true_eq_false]; omega), ?_⟩
          iterate 4 (refine hX _ ?_; conv => whnf)
          rw [show fo (i + 1) (fun t a => if bt s (12 + t) = 0 then a else bg_or a (h 36 t)) (bg_and s 4095) = (if bt s (12 + i) = 0 then fo i (fun t a => if bt s (12 + t) = 0 then a else bg_or a (h 36 t)) (bg_and s 4095) else bg_or (fo i (fun t a => if bt s (12 + t) = 0 then a else bg_or a (h 36 t)) (bg_and s 4095)) (h 36 i)) from rfl] at ih
          first | (rw [if_pos q21] at ih; exact ih) | (rw [if_neg q21] at ih; exact ih)
  iterate 6 (refine hX _ ?_; conv => whnf)
  exact l1 0 (by omega)
theorem s_mheldBy (d n : Nat) (s : Int) (h : bg_G) (Rt : bg_R) (hR : Rt (some (.inl (heldM h s))) (bg_SH n, h)) : bg_Ca bg_MS (d + 2) 132 [vR 115, vI s] (bg_SH n, h) Rt := by
  refine bg_ca (cd := cd_X9_heldBy) rfl rfl ?_
  intro X hX
  have l1 : ∀ i, i ≤ 3 → X (8, [oR 115, oI s, oI (fo i (fun t a => bg_or a (if bt s (12 + t) = 0 then 0 else bg_or (bg_shl 1 (h 120 (3 * t))) (bg_shl 1 (h 120 (3 * t + 1))))) (bg_and s 4095)), oI (i : Int)], [], (bg_SH n, h), (0, 0)) := by
    refine lp_up 3 _ ?_ (fun i hi ih => ?_)
    · iterate 2 (refine hX _ ?_; conv => whnf)
      refine hX _ ?_; conv => whnf
      refine ⟨fun q10 => ?_, fun q10 => ?_⟩
      · try simp (disch := omega) only [bg_w_id, Int.toNat_natCast, rw_land, sh_land, not_true_eq_false, kc0, kc1, kc2, kc3, kc4, kc5, kc6, kc7, kc8, kc9, kc10, kc11, kc12, kc13, kc14, kc15, kc16, kc17, kc18, kc19, kc20, kc21, kc22, kc23, kc24, kc25, kc26, kc27, kc28, kc29, kc30, kc31, kc32, kc33] at q10
        refine hX _ ?_; conv => whnf
        refine hX _ ?_; conv => whnf
        exact hR
      · exfalso
        (try simp (disch := omega) only [bg_w_id, Int.toNat_natCast, rw_land, sh_land, not_true_eq_false, kc0, kc1, kc2, kc3, kc4, kc5, kc6, kc7, kc8, kc9, kc10, kc11, kc12, kc13, kc14, kc15, kc16, kc17, kc18, kc19, kc20, kc21, kc22, kc23, kc24, kc25, kc26, kc27, kc28, kc29, kc30, kc31, kc32, kc33] at q10) <;> (omega)
    · iterate 2 (refine hX _ ?_; conv => whnf)
      refine hX _ ?_; conv => whnf
      refine ⟨fun q10 => ?_, fun q10 => ?_⟩
      · exfalso
        (try simp (disch := omega) only [bg_w_id, Int.toNat_natCast, rw_land, sh_land, not_true_eq_false, kc0, kc1, kc2, kc3, kc4, kc5, kc6, kc7, kc8, kc9, kc10, kc11, kc12, kc13, kc14, kc15, kc16, kc17, kc18, kc19, kc20, kc21, kc22, kc23, kc24, kc25, kc26, kc27, kc28, kc29, kc30, kc31, kc32, kc33] at q10) <;> (omega)
      · try simp (disch := omega) only [bg_w_id, Int.toNat_natCast, rw_land, sh_land, not_true_eq_false, kc0, kc1, kc2, kc3, kc4, kc5, kc6, kc7, kc8, kc9, kc10, kc11, kc12, kc13, kc14, kc15, kc16, kc17, kc18, kc19, kc20, kc21, kc22, kc23, kc24, kc25, kc26, kc27, kc28, kc29, kc30, kc31, kc32, kc33] at q10
        iterate 5 (refine hX _ ?_; conv => whnf)
        refine hX _ ?_; conv => whnf
        try simp (disch := omega) only [bg_w_id, Int.toNat_natCast, rw_land, sh_land, not_true_eq_false]
        refine s_has d _ _ _ _ ?_
        conv => whnf
        refine hX _ ?_; conv => whnf
        refine ⟨fun q22 => ?_, fun q22 => ?_⟩
        · try simp (disch := omega) only [bg_w_id, Int.toNat_natCast, rw_land, sh_land, not_true_eq_false, kc0, kc1, kc2, kc3, kc4, kc5, kc6, kc7, kc8, kc9, kc10, kc11, kc12, kc13, kc14, kc15, kc16, kc17, kc18, kc19, kc20, kc21, kc22, kc23, kc24, kc25, kc26, kc27, kc28, kc29, kc30, kc31, kc32, kc33] at q22
          rw [bt_w] at q22
          iterate 5 (refine hX _ ?_; conv => whnf)
          rw [show fo (i + 1) (fun t a => bg_or a (if bt s (12 + t) = 0 then 0 else bg_or (bg_shl 1 (h 120 (3 * t))) (bg_shl 1 (h 120 (3 * t + 1))))) (bg_and s 4095) = bg_or (fo i (fun t a => bg_or a (if bt s (12 + t) = 0 then 0 else bg_or (bg_shl 1 (h 120 (3 * t))) (bg_shl 1 (h 120 (3 * t + 1))))) (bg_and s 4095)) (if bt s (12 + i) = 0 then 0 else bg_or (bg_shl 1 (h 120 (3 * i))) (bg_shl 1 (h 120 (3 * i + 1)))) from rfl] at ih
          first | (rw [if_pos q22] at ih; exact ih) | (rw [if_neg q22] at ih; exact ih)
        · try simp (disch := omega) only [bg_w_id, Int.toNat_natCast, rw_land, sh_land, not_true_eq_false, kc0, kc1, kc2, kc3, kc4, kc5, kc6, kc7, kc8, kc9, kc10, kc11, kc12, kc13, kc14, kc15, kc16, kc17, kc18, kc19, kc20, kc21, kc22, kc23, kc24, kc25, kc26, kc27, kc28, kc29, kc30, kc31, kc32, kc33] at q22
          rw [bt_w] at q22
          iterate 6 (refine hX _ ?_; conv => whnf)
          refine hX _ ?_; conv => whnf
          try (simp (disch := omega) only [bg_w_id, Int.toNat_natCast, rw_land, sh_land, not_true_eq_false]; try conv => whnf)
          refine ⟨by first | omega | (simp (disch := omega) only [bg_w_id, Int.toNat_natCast, rw_land, sh_land, not_true_eq_false]; omega), ?_⟩
          iterate 9 (refine hX _ ?_; conv => whnf)
          refine hX _ ?_; conv => whnf
          try (simp (disch := omega) only [bg_w_id, Int.toNat_natCast, rw_land, sh_land, not_true_eq_false]; try conv => whnf)
          refine ⟨by first | omega | (simp (disch := omega) only [bg_w_id, Int.toNat_natCast, rw_land, sh_land, not_true_eq_false]; omega), ?_⟩
          iterate 7 (refine hX _ ?_; conv => whnf)
          rw [show fo (i + 1) (fun t a => bg_or a (if bt s (12 + t) = 0 then 0 else bg_or (bg_shl 1 (h 120 (3 * t))) (bg_shl 1 (h 120 (3 * t + 1))))) (bg_and s 4095) = bg_or (fo i (fun t a => bg_or a (if bt s (12 + t) = 0 then 0 else bg_or (bg_shl 1 (h 120 (3 * t))) (bg_shl 1 (h 120 (3 * t + 1))))) (bg_and s 4095)) (if bt s (12 + i) = 0 then 0 else bg_or (bg_shl 1 (h 120 (3 * i))) (bg_shl 1 (h 120 (3 * i + 1)))) from rfl] at ih
          first | (rw [if_pos q22] at ih; exact ih) | (rw [if_neg q22] at ih; exact ih)
  iterate 6 (refine hX _ ?_; conv => whnf)
  exact l1 0 (by omega)
theorem s_waitsOf (d n : Nat) (s : Int) (h : bg_G) (Rt : bg_R) (hR : Rt (some (.inl (sm 12 (fun i => bt s i * h (24 + i) 6)))) (bg_SH n, h)) : bg_Ca bg_MS (d + 1) 40 [vR 22, vI s] (bg_SH n, h) Rt := by
  refine bg_ca (cd := cd_X2_waitsOf) rfl rfl ?_
  intro X hX
  have l1 : ∀ i, i ≤ 12 → X (4, [oR 22, oI s, oI (sm i (fun i => bt s i * h (24 + i) 6)), oI (i : Int)], [], (bg_SH n, h), (0, 0)) := by
    refine lp_up 12 _ ?_ (fun i hi ih => ?_)
    · iterate 2 (refine hX _ ?_; conv => whnf)
      refine hX _ ?_; conv => whnf
      refine ⟨fun q7 => ?_, fun q7 => ?_⟩
      · try simp (disch := omega) only [bg_w_id, Int.toNat_natCast, rw_land, sh_land, not_true_eq_false, kc0, kc1, kc2, kc3, kc4, kc5, kc6, kc7, kc8, kc9, kc10, kc11, kc12, kc13, kc14, kc15, kc16, kc17, kc18, kc19, kc20, kc21, kc22, kc23, kc24, kc25, kc26, kc27, kc28, kc29, kc30, kc31, kc32, kc33] at q7
        refine hX _ ?_; conv => whnf
        refine hX _ ?_; conv => whnf
        exact hR
      · exfalso
        (try simp (disch := omega) only [bg_w_id, Int.toNat_natCast, rw_land, sh_land, not_true_eq_false, kc0, kc1, kc2, kc3, kc4, kc5, kc6, kc7, kc8, kc9, kc10, kc11, kc12, kc13, kc14, kc15, kc16, kc17, kc18, kc19, kc20, kc21, kc22, kc23, kc24, kc25, kc26, kc27, kc28, kc29, kc30, kc31, kc32, kc33] at q7) <;> (omega)
    · iterate 2 (refine hX _ ?_; conv => whnf)
      refine hX _ ?_; conv => whnf
      refine ⟨fun q7 => ?_, fun q7 => ?_⟩
      · exfalso
        (try simp (disch := omega) only [bg_w_id, Int.toNat_natCast, rw_land, sh_land, not_true_eq_false, kc0, kc1, kc2, kc3, kc4, kc5, kc6, kc7, kc8, kc9, kc10, kc11, kc12, kc13, kc14, kc15, kc16, kc17, kc18, kc19, kc20, kc21, kc22, kc23, kc24, kc25, kc26, kc27, kc28, kc29, kc30, kc31, kc32, kc33] at q7) <;> (omega)
      · try simp (disch := omega) only [bg_w_id, Int.toNat_natCast, rw_land, sh_land, not_true_eq_false, kc0, kc1, kc2, kc3, kc4, kc5, kc6, kc7, kc8, kc9, kc10, kc11, kc12, kc13, kc14, kc15, kc16, kc17, kc18, kc19, kc20, kc21, kc22, kc23, kc24, kc25, kc26, kc27, kc28, kc29, kc30, kc31, kc32, kc33] at q7
        iterate 9 (refine hX _ ?_; conv => whnf)
        refine hX _ ?_; conv => whnf
        try (simp (disch := omega) only [bg_w_id, Int.toNat_natCast, rw_land, sh_land, not_true_eq_false]; try conv => whnf)
        refine ⟨by first | omega | (simp (disch := omega) only [bg_w_id, Int.toNat_natCast, rw_land, sh_land, not_true_eq_false]; omega), ?_⟩
        try (simp (disch := omega) only [bg_w_id, Int.toNat_natCast, rw_land, sh_land, not_true_eq_false])
        try conv => whnf
        refine hX _ ?_; conv => whnf
        refine hX _ ?_; conv => whnf
        try (simp (disch := omega) only [bg_w_id, Int.toNat_natCast, rw_land, sh_land, not_true_eq_false]; try conv => whnf)
        refine ⟨by first | omega | (simp (disch := omega) only [bg_w_id, Int.toNat_natCast, rw_land, sh_land, not_true_eq_false]; omega), ?_⟩
        iterate 5 (refine hX _ ?_; conv => whnf)
        exact ih
  iterate 4 (refine hX _ ?_; conv => whnf)
  exact l1 0 (by omega)
theorem s_mwaitsBy (d n : Nat) (s : Int) (h : bg_G) (Rt : bg_R) (hR : Rt (some (.inl (sm 12 (fun i => bt s i * h 118 (7 * i + 6))))) (bg_SH n, h)) : bg_Ca bg_MS (d + 2) 133 [vR 115, vI s] (bg_SH n, h) Rt := by
  refine bg_ca (cd := cd_X9_waitsBy) rfl rfl ?_
  intro X hX
  have l1 : ∀ i, i ≤ 12 → X (4, [oR 115, oI s, oI (sm i (fun i => bt s i * h 118 (7 * i + 6))), oI (i : Int)], [], (bg_SH n, h), (0, 0)) := by
    refine lp_up 12 _ ?_ (fun i hi ih => ?_)
    · iterate 2 (refine hX _ ?_; conv => whnf)
      refine hX _ ?_; conv => whnf
      refine ⟨fun q7 => ?_, fun q7 => ?_⟩
      · try simp (disch := omega) only [bg_w_id, Int.toNat_natCast, rw_land, sh_land, not_true_eq_false, kc0, kc1, kc2, kc3, kc4, kc5, kc6, kc7, kc8, kc9, kc10, kc11, kc12, kc13, kc14, kc15, kc16, kc17, kc18, kc19, kc20, kc21, kc22, kc23, kc24, kc25, kc26, kc27, kc28, kc29, kc30, kc31, kc32, kc33] at q7
        refine hX _ ?_; conv => whnf
        refine hX _ ?_; conv => whnf
        exact hR
      · exfalso
        (try simp (disch := omega) only [bg_w_id, Int.toNat_natCast, rw_land, sh_land, not_true_eq_false, kc0, kc1, kc2, kc3, kc4, kc5, kc6, kc7, kc8, kc9, kc10, kc11, kc12, kc13, kc14, kc15, kc16, kc17, kc18, kc19, kc20, kc21, kc22, kc23, kc24, kc25, kc26, kc27, kc28, kc29, kc30, kc31, kc32, kc33] at q7) <;> (omega)
    · iterate 2 (refine hX _ ?_; conv => whnf)
      refine hX _ ?_; conv => whnf
      refine ⟨fun q7 => ?_, fun q7 => ?_⟩
      · exfalso
        (try simp (disch := omega) only [bg_w_id, Int.toNat_natCast, rw_land, sh_land, not_true_eq_false, kc0, kc1, kc2, kc3, kc4, kc5, kc6, kc7, kc8, kc9, kc10, kc11, kc12, kc13, kc14, kc15, kc16, kc17, kc18, kc19, kc20, kc21, kc22, kc23, kc24, kc25, kc26, kc27, kc28, kc29, kc30, kc31, kc32, kc33] at q7) <;> (omega)
      · try simp (disch := omega) only [bg_w_id, Int.toNat_natCast, rw_land, sh_land, not_true_eq_false, kc0, kc1, kc2, kc3, kc4, kc5, kc6, kc7, kc8, kc9, kc10, kc11, kc12, kc13, kc14, kc15, kc16, kc17, kc18, kc19, kc20, kc21, kc22, kc23, kc24, kc25, kc26, kc27, kc28, kc29, kc30, kc31, kc32, kc33] at q7
        iterate 3 (refine hX _ ?_; conv => whnf)
        refine hX _ ?_; conv => whnf
        try simp (disch := omega) only [bg_w_id, Int.toNat_natCast, rw_land, sh_land, not_true_eq_false]
        refine s_has d _ _ _ _ ?_
        conv => whnf
        refine hX _ ?_; conv => whnf
        refine ⟨fun q16 => ?_, fun q16 => ?_⟩
        · try simp (disch := omega) only [bg_w_id, Int.toNat_natCast, rw_land, sh_land, not_true_eq_false, kc0, kc1, kc2, kc3, kc4, kc5, kc6, kc7, kc8, kc9, kc10, kc11, kc12, kc13, kc14, kc15, kc16, kc17, kc18, kc19, kc20, kc21, kc22, kc23, kc24, kc25, kc26, kc27, kc28, kc29, kc30, kc31, kc32, kc33] at q16
          rw [bt_w] at q16
          iterate 5 (refine hX _ ?_; conv => whnf)
          rw [show sm (i + 1) (fun i => bt s i * h 118 (7 * i + 6)) = sm i (fun i => bt s i * h 118 (7 * i + 6)) + bt s i * h 118 (7 * i + 6) from rfl, q16] at ih
          simp only [Int.zero_mul, Int.one_mul] at ih
          exact ih
        · try simp (disch := omega) only [bg_w_id, Int.toNat_natCast, rw_land, sh_land, not_true_eq_false, kc0, kc1, kc2, kc3, kc4, kc5, kc6, kc7, kc8, kc9, kc10, kc11, kc12, kc13, kc14, kc15, kc16, kc17, kc18, kc19, kc20, kc21, kc22, kc23, kc24, kc25, kc26, kc27, kc28, kc29, kc30, kc31, kc32, kc33] at q16
          rw [bt_w] at q16; have q16 := (bt_01 s i).resolve_left q16
          iterate 7 (refine hX _ ?_; conv => whnf)
          refine hX _ ?_; conv => whnf
          try (simp (disch := omega) only [bg_w_id, Int.toNat_natCast, rw_land, sh_land, not_true_eq_false]; try conv => whnf)
          refine ⟨by first | omega | (simp (disch := omega) only [bg_w_id, Int.toNat_natCast, rw_land, sh_land, not_true_eq_false]; omega), ?_⟩
          iterate 5 (refine hX _ ?_; conv => whnf)
          rw [show sm (i + 1) (fun i => bt s i * h 118 (7 * i + 6)) = sm i (fun i => bt s i * h 118 (7 * i + 6)) + bt s i * h 118 (7 * i + 6) from rfl, q16] at ih
          simp only [Int.zero_mul, Int.one_mul] at ih
          exact ih
  iterate 4 (refine hX _ ?_; conv => whnf)
  exact l1 0 (by omega)
/-- how many hundredths come through over a path -/
def hT (h : bg_G) (held : Int) (p : Nat) : Int := if bt held p = 0 then 100 else 100 - h (24 + p) 5
def bearC (h : bg_G) (held : Int) (p : Nat) (b : Int) : Int := bg_div ((h (24 + p) 2 + b) * hT h held p) 100
def bearM (h : bg_G) (held : Int) (p : Nat) (b : Int) : Int := if bt held p = 0 then h 118 (7 * p + 2) + b else bg_div ((h 118 (7 * p + 2) + b) * (100 - h 118 (7 * p + 5))) 100
theorem s_hundredths (d n : Nat) (p : Nat) (hp : p < 12) (s : Int) (h : bg_G) (Rt : bg_R) (hR : Rt (some (.inl (hT h s p))) (bg_SH n, h)) : bg_Ca bg_MS (d + 1) 191 [vR 22, vI p, vI s] (bg_SH n, h) Rt := by
  unfold hT at hR
  refine bg_ca (cd := cd_X2_hundredthsThrough) rfl rfl ?_
  intro X hX
  refine hX _ ?_; conv => whnf
  refine hX _ ?_; conv => whnf
  refine ⟨fun q1 => ?_, fun q1 => ?_⟩
  · exfalso
    (try simp (disch := omega) only [bg_w_id, Int.toNat_natCast, rw_land, sh_land, not_true_eq_false, kc0, kc1, kc2, kc3, kc4, kc5, kc6, kc7, kc8, kc9, kc10, kc11, kc12, kc13, kc14, kc15, kc16, kc17, kc18, kc19, kc20, kc21, kc22, kc23, kc24, kc25, kc26, kc27, kc28, kc29, kc30, kc31, kc32, kc33] at q1) <;> (omega)
  · try simp (disch := omega) only [bg_w_id, Int.toNat_natCast, rw_land, sh_land, not_true_eq_false, kc0, kc1, kc2, kc3, kc4, kc5, kc6, kc7, kc8, kc9, kc10, kc11, kc12, kc13, kc14, kc15, kc16, kc17, kc18, kc19, kc20, kc21, kc22, kc23, kc24, kc25, kc26, kc27, kc28, kc29, kc30, kc31, kc32, kc33] at q1
    iterate 2 (refine hX _ ?_; conv => whnf)
    refine hX _ ?_; conv => whnf
    refine ⟨fun q7 => ?_, fun q7 => ?_⟩
    · exfalso
      (try simp (disch := omega) only [bg_w_id, Int.toNat_natCast, rw_land, sh_land, not_true_eq_false, kc0, kc1, kc2, kc3, kc4, kc5, kc6, kc7, kc8, kc9, kc10, kc11, kc12, kc13, kc14, kc15, kc16, kc17, kc18, kc19, kc20, kc21, kc22, kc23, kc24, kc25, kc26, kc27, kc28, kc29, kc30, kc31, kc32, kc33] at q7) <;> (omega)
    · try simp (disch := omega) only [bg_w_id, Int.toNat_natCast, rw_land, sh_land, not_true_eq_false, kc0, kc1, kc2, kc3, kc4, kc5, kc6, kc7, kc8, kc9, kc10, kc11, kc12, kc13, kc14, kc15, kc16, kc17, kc18, kc19, kc20, kc21, kc22, kc23, kc24, kc25, kc26, kc27, kc28, kc29, kc30, kc31, kc32, kc33] at q7
      iterate 5 (refine hX _ ?_; conv => whnf)
      refine hX _ ?_; conv => whnf
      refine ⟨fun q15 => ?_, fun q15 => ?_⟩
      · try simp (disch := omega) only [bg_w_id, Int.toNat_natCast, rw_land, sh_land, not_true_eq_false, kc0, kc1, kc2, kc3, kc4, kc5, kc6, kc7, kc8, kc9, kc10, kc11, kc12, kc13, kc14, kc15, kc16, kc17, kc18, kc19, kc20, kc21, kc22, kc23, kc24, kc25, kc26, kc27, kc28, kc29, kc30, kc31, kc32, kc33] at q15
        have q15 : bg_w (bt s p) = 0 := q15
        rw [bt_w] at q15
        iterate 3 (refine hX _ ?_; conv => whnf)
        refine hX _ ?_; conv => whnf
        refine ⟨fun q25 => ?_, fun q25 => ?_⟩
        · first
          | (exfalso; (try simp (disch := omega) only [bg_w_id, Int.toNat_natCast, rw_land, sh_land, not_true_eq_false, kc0, kc1, kc2, kc3, kc4, kc5, kc6, kc7, kc8, kc9, kc10, kc11, kc12, kc13, kc14, kc15, kc16, kc17, kc18, kc19, kc20, kc21, kc22, kc23, kc24, kc25, kc26, kc27, kc28, kc29, kc30, kc31, kc32, kc33] at q25) <;> omega)
          | (try simp (disch := omega) only [bg_w_id, Int.toNat_natCast, rw_land, sh_land, not_true_eq_false, kc0, kc1, kc2, kc3, kc4, kc5, kc6, kc7, kc8, kc9, kc10, kc11, kc12, kc13, kc14, kc15, kc16, kc17, kc18, kc19, kc20, kc21, kc22, kc23, kc24, kc25, kc26, kc27, kc28, kc29, kc30, kc31, kc32, kc33] at q25
             refine hX _ ?_; conv => whnf
             refine hX _ ?_; conv => whnf
             first | (rw [if_pos q15] at hR; exact hR) | (rw [if_neg q15] at hR; exact hR))
        · first
          | (exfalso; (try simp (disch := omega) only [bg_w_id, Int.toNat_natCast, rw_land, sh_land, not_true_eq_false, kc0, kc1, kc2, kc3, kc4, kc5, kc6, kc7, kc8, kc9, kc10, kc11, kc12, kc13, kc14, kc15, kc16, kc17, kc18, kc19, kc20, kc21, kc22, kc23, kc24, kc25, kc26, kc27, kc28, kc29, kc30, kc31, kc32, kc33] at q25) <;> omega)
          | (try simp (disch := omega) only [bg_w_id, Int.toNat_natCast, rw_land, sh_land, not_true_eq_false, kc0, kc1, kc2, kc3, kc4, kc5, kc6, kc7, kc8, kc9, kc10, kc11, kc12, kc13, kc14, kc15, kc16, kc17, kc18, kc19, kc20, kc21, kc22, kc23, kc24, kc25, kc26, kc27, kc28, kc29, kc30, kc31, kc32, kc33] at q25
             iterate 4 (refine hX _ ?_; conv => whnf)
             refine hX _ ?_; conv => whnf
             try (simp (disch := omega) only [bg_w_id, Int.toNat_natCast, rw_land, sh_land, not_true_eq_false]; try conv => whnf)
             refine ⟨by first | omega | (simp (disch := omega) only [bg_w_id, Int.toNat_natCast, rw_land, sh_land, not_true_eq_false]; omega), ?_⟩
             try (simp (disch := omega) only [bg_w_id, Int.toNat_natCast, rw_land, sh_land, not_true_eq_false])
             try conv => whnf
             refine hX _ ?_; conv => whnf
             refine hX _ ?_; conv => whnf
             try (simp (disch := omega) only [bg_w_id, Int.toNat_natCast, rw_land, sh_land, not_true_eq_false]; try conv => whnf)
             refine ⟨by first | omega | (simp (disch := omega) only [bg_w_id, Int.toNat_natCast, rw_land, sh_land, not_true_eq_false]; omega), ?_⟩
             iterate 2 (refine hX _ ?_; conv => whnf)
             refine hX _ ?_; conv => whnf
             first | (rw [if_pos q15] at hR; exact hR) | (rw [if_neg q15] at hR; exact hR))
      · try simp (disch := omega) only [bg_w_id, Int.toNat_natCast, rw_land, sh_land, not_true_eq_false, kc0, kc1, kc2, kc3, kc4, kc5, kc6, kc7, kc8, kc9, kc10, kc11, kc12, kc13, kc14, kc15, kc16, kc17, kc18, kc19, kc20, kc21, kc22, kc23, kc24, kc25, kc26, kc27, kc28, kc29, kc30, kc31, kc32, kc33] at q15
        have q15 : ¬ bg_w (bt s p) = 0 := q15
        rw [bt_w] at q15
        iterate 4 (refine hX _ ?_; conv => whnf)
        refine hX _ ?_; conv => whnf
        refine ⟨fun q25 => ?_, fun q25 => ?_⟩
        · first
          | (exfalso; (try simp (disch := omega) only [bg_w_id, Int.toNat_natCast, rw_land, sh_land, not_true_eq_false, kc0, kc1, kc2, kc3, kc4, kc5, kc6, kc7, kc8, kc9, kc10, kc11, kc12, kc13, kc14, kc15, kc16, kc17, kc18, kc19, kc20, kc21, kc22, kc23, kc24, kc25, kc26, kc27, kc28, kc29, kc30, kc31, kc32, kc33] at q25) <;> omega)
          | (try simp (disch := omega) only [bg_w_id, Int.toNat_natCast, rw_land, sh_land, not_true_eq_false, kc0, kc1, kc2, kc3, kc4, kc5, kc6, kc7, kc8, kc9, kc10, kc11, kc12, kc13, kc14, kc15, kc16, kc17, kc18, kc19, kc20, kc21, kc22, kc23, kc24, kc25, kc26, kc27, kc28, kc29, kc30, kc31, kc32, kc33] at q25
             refine hX _ ?_; conv => whnf
             refine hX _ ?_; conv => whnf
             first | (rw [if_pos q15] at hR; exact hR) | (rw [if_neg q15] at hR; exact hR))
        · first
          | (exfalso; (try simp (disch := omega) only [bg_w_id, Int.toNat_natCast, rw_land, sh_land, not_true_eq_false, kc0, kc1, kc2, kc3, kc4, kc5, kc6, kc7, kc8, kc9, kc10, kc11, kc12, kc13, kc14, kc15, kc16, kc17, kc18, kc19, kc20, kc21, kc22, kc23, kc24, kc25, kc26, kc27, kc28, kc29, kc30, kc31, kc32, kc33] at q25) <;> omega)
          | (try simp (disch := omega) only [bg_w_id, Int.toNat_natCast, rw_land, sh_land, not_true_eq_false, kc0, kc1, kc2, kc3, kc4, kc5, kc6, kc7, kc8, kc9, kc10, kc11, kc12, kc13, kc14, kc15, kc16, kc17, kc18, kc19, kc20, kc21, kc22, kc23, kc24, kc25, kc26, kc27, kc28, kc29, kc30, kc31, kc32, kc33] at q25
             iterate 4 (refine hX _ ?_; conv => whnf)
             refine hX _ ?_; conv => whnf
             try (simp (disch := omega) only [bg_w_id, Int.toNat_natCast, rw_land, sh_land, not_true_eq_false]; try conv => whnf)
             refine ⟨by first | omega | (simp (disch := omega) only [bg_w_id, Int.toNat_natCast, rw_land, sh_land, not_true_eq_false]; omega), ?_⟩
             try (simp (disch := omega) only [bg_w_id, Int.toNat_natCast, rw_land, sh_land, not_true_eq_false])
             try conv => whnf
             refine hX _ ?_; conv => whnf
             refine hX _ ?_; conv => whnf
             try (simp (disch := omega) only [bg_w_id, Int.toNat_natCast, rw_land, sh_land, not_true_eq_false]; try conv => whnf)
             refine ⟨by first | omega | (simp (disch := omega) only [bg_w_id, Int.toNat_natCast, rw_land, sh_land, not_true_eq_false]; omega), ?_⟩
             iterate 2 (refine hX _ ?_; conv => whnf)
             refine hX _ ?_; conv => whnf
             first | (rw [if_pos q15] at hR; exact hR) | (rw [if_neg q15] at hR; exact hR))
theorem s_carryingOn (d n : Nat) (p : Nat) (hp : p < 12) (h : bg_G) (Rt : bg_R) (hR : Rt (some (.inl (h (24 + p) 3))) (bg_SH n, h)) : bg_Ca bg_MS (d + 1) 192 [vR 22, vI p] (bg_SH n, h) Rt := by
  refine bg_ca (cd := cd_X2_carryingOn) rfl rfl ?_
  intro X hX
  refine hX _ ?_; conv => whnf
  refine hX _ ?_; conv => whnf
  refine ⟨fun q1 => ?_, fun q1 => ?_⟩
  · exfalso
    (try simp (disch := omega) only [bg_w_id, Int.toNat_natCast, rw_land, sh_land, not_true_eq_false, kc0, kc1, kc2, kc3, kc4, kc5, kc6, kc7, kc8, kc9, kc10, kc11, kc12, kc13, kc14, kc15, kc16, kc17, kc18, kc19, kc20, kc21, kc22, kc23, kc24, kc25, kc26, kc27, kc28, kc29, kc30, kc31, kc32, kc33] at q1) <;> (omega)
  · try simp (disch := omega) only [bg_w_id, Int.toNat_natCast, rw_land, sh_land, not_true_eq_false, kc0, kc1, kc2, kc3, kc4, kc5, kc6, kc7, kc8, kc9, kc10, kc11, kc12, kc13, kc14, kc15, kc16, kc17, kc18, kc19, kc20, kc21, kc22, kc23, kc24, kc25, kc26, kc27, kc28, kc29, kc30, kc31, kc32, kc33] at q1
    iterate 2 (refine hX _ ?_; conv => whnf)
    refine hX _ ?_; conv => whnf
    refine ⟨fun q7 => ?_, fun q7 => ?_⟩
    · exfalso
      (try simp (disch := omega) only [bg_w_id, Int.toNat_natCast, rw_land, sh_land, not_true_eq_false, kc0, kc1, kc2, kc3, kc4, kc5, kc6, kc7, kc8, kc9, kc10, kc11, kc12, kc13, kc14, kc15, kc16, kc17, kc18, kc19, kc20, kc21, kc22, kc23, kc24, kc25, kc26, kc27, kc28, kc29, kc30, kc31, kc32, kc33] at q7) <;> (omega)
    · try simp (disch := omega) only [bg_w_id, Int.toNat_natCast, rw_land, sh_land, not_true_eq_false, kc0, kc1, kc2, kc3, kc4, kc5, kc6, kc7, kc8, kc9, kc10, kc11, kc12, kc13, kc14, kc15, kc16, kc17, kc18, kc19, kc20, kc21, kc22, kc23, kc24, kc25, kc26, kc27, kc28, kc29, kc30, kc31, kc32, kc33] at q7
      iterate 3 (refine hX _ ?_; conv => whnf)
      refine hX _ ?_; conv => whnf
      try (simp (disch := omega) only [bg_w_id, Int.toNat_natCast, rw_land, sh_land, not_true_eq_false]; try conv => whnf)
      refine ⟨by first | omega | (simp (disch := omega) only [bg_w_id, Int.toNat_natCast, rw_land, sh_land, not_true_eq_false]; omega), ?_⟩
      try (simp (disch := omega) only [bg_w_id, Int.toNat_natCast, rw_land, sh_land, not_true_eq_false])
      try conv => whnf
      refine hX _ ?_; conv => whnf
      refine hX _ ?_; conv => whnf
      try (simp (disch := omega) only [bg_w_id, Int.toNat_natCast, rw_land, sh_land, not_true_eq_false]; try conv => whnf)
      refine ⟨by first | omega | (simp (disch := omega) only [bg_w_id, Int.toNat_natCast, rw_land, sh_land, not_true_eq_false]; omega), ?_⟩
      refine hX _ ?_; conv => whnf
      refine hX _ ?_; conv => whnf
      exact hR
theorem s_bearing (d n : Nat) (p : Nat) (hp : p < 12) (s b : Int) (h : bg_G) (Rt : bg_R) (hR : Rt (some (.inl (bearC h s p b))) (bg_SH n, h)) : bg_Ca bg_MS (d + 2) 41 [vR 22, vI p, vI s, vI b] (bg_SH n, h) Rt := by
  refine bg_ca (cd := cd_X2_bearing) rfl rfl ?_
  intro X hX
  refine hX _ ?_; conv => whnf
  refine hX _ ?_; conv => whnf
  refine ⟨fun q1 => ?_, fun q1 => ?_⟩
  · exfalso
    (try simp (disch := omega) only [bg_w_id, Int.toNat_natCast, rw_land, sh_land, not_true_eq_false, kc0, kc1, kc2, kc3, kc4, kc5, kc6, kc7, kc8, kc9, kc10, kc11, kc12, kc13, kc14, kc15, kc16, kc17, kc18, kc19, kc20, kc21, kc22, kc23, kc24, kc25, kc26, kc27, kc28, kc29, kc30, kc31, kc32, kc33] at q1) <;> (omega)
  · try simp (disch := omega) only [bg_w_id, Int.toNat_natCast, rw_land, sh_land, not_true_eq_false, kc0, kc1, kc2, kc3, kc4, kc5, kc6, kc7, kc8, kc9, kc10, kc11, kc12, kc13, kc14, kc15, kc16, kc17, kc18, kc19, kc20, kc21, kc22, kc23, kc24, kc25, kc26, kc27, kc28, kc29, kc30, kc31, kc32, kc33] at q1
    iterate 2 (refine hX _ ?_; conv => whnf)
    refine hX _ ?_; conv => whnf
    refine ⟨fun q7 => ?_, fun q7 => ?_⟩
    · try simp (disch := omega) only [bg_w_id, Int.toNat_natCast, rw_land, sh_land, not_true_eq_false, kc0, kc1, kc2, kc3, kc4, kc5, kc6, kc7, kc8, kc9, kc10, kc11, kc12, kc13, kc14, kc15, kc16, kc17, kc18, kc19, kc20, kc21, kc22, kc23, kc24, kc25, kc26, kc27, kc28, kc29, kc30, kc31, kc32, kc33] at q7
      iterate 3 (refine hX _ ?_; conv => whnf)
      refine hX _ ?_; conv => whnf
      try (simp (disch := omega) only [bg_w_id, Int.toNat_natCast, rw_land, sh_land, not_true_eq_false]; try conv => whnf)
      refine ⟨by first | omega | (simp (disch := omega) only [bg_w_id, Int.toNat_natCast, rw_land, sh_land, not_true_eq_false]; omega), ?_⟩
      try (simp (disch := omega) only [bg_w_id, Int.toNat_natCast, rw_land, sh_land, not_true_eq_false])
      try conv => whnf
      refine hX _ ?_; conv => whnf
      refine hX _ ?_; conv => whnf
      try (simp (disch := omega) only [bg_w_id, Int.toNat_natCast, rw_land, sh_land, not_true_eq_false]; try conv => whnf)
      refine ⟨by first | omega | (simp (disch := omega) only [bg_w_id, Int.toNat_natCast, rw_land, sh_land, not_true_eq_false]; omega), ?_⟩
      iterate 5 (refine hX _ ?_; conv => whnf)
      refine hX _ ?_; conv => whnf
      try simp (disch := omega) only [bg_w_id, Int.toNat_natCast, rw_land, sh_land, not_true_eq_false]
      refine s_hundredths d n p hp _ _ _ ?_
      conv => whnf
      iterate 2 (refine hX _ ?_; conv => whnf)
      refine hX _ ?_; conv => whnf
      refine ⟨by first | omega | decide | (simp (disch := omega) only [bg_w_id, Int.toNat_natCast, rw_land, sh_land, not_true_eq_false]; omega), ?_⟩
      refine hX _ ?_; conv => whnf
      exact hR
    · exfalso
      (try simp (disch := omega) only [bg_w_id, Int.toNat_natCast, rw_land, sh_land, not_true_eq_false, kc0, kc1, kc2, kc3, kc4, kc5, kc6, kc7, kc8, kc9, kc10, kc11, kc12, kc13, kc14, kc15, kc16, kc17, kc18, kc19, kc20, kc21, kc22, kc23, kc24, kc25, kc26, kc27, kc28, kc29, kc30, kc31, kc32, kc33] at q7) <;> (omega)
theorem s_mbearsWith (d n : Nat) (p : Nat) (hp : p < 12) (s b : Int) (h : bg_G) (Rt : bg_R) (hR : Rt (some (.inl (bearM h s p b))) (bg_SH n, h)) : bg_Ca bg_MS (d + 2) 135 [vR 115, vI s, vI p, vI b] (bg_SH n, h) Rt := by
  refine bg_ca (cd := cd_X9_bearsWith) rfl rfl ?_
  intro X hX
  iterate 7 (refine hX _ ?_; conv => whnf)
  refine hX _ ?_; conv => whnf
  try (simp (disch := omega) only [bg_w_id, Int.toNat_natCast, rw_land, sh_land, not_true_eq_false]; try conv => whnf)
  refine ⟨by first | omega | (simp (disch := omega) only [bg_w_id, Int.toNat_natCast, rw_land, sh_land, not_true_eq_false]; omega), ?_⟩
  iterate 5 (refine hX _ ?_; conv => whnf)
  refine hX _ ?_; conv => whnf
  try simp (disch := omega) only [bg_w_id, Int.toNat_natCast, rw_land, sh_land, not_true_eq_false]
  refine s_has d _ _ _ _ ?_
  conv => whnf
  refine hX _ ?_; conv => whnf
  refine ⟨fun q20 => ?_, fun q20 => ?_⟩
  · try simp (disch := omega) only [bg_w_id, Int.toNat_natCast, rw_land, sh_land, not_true_eq_false, kc0, kc1, kc2, kc3, kc4, kc5, kc6, kc7, kc8, kc9, kc10, kc11, kc12, kc13, kc14, kc15, kc16, kc17, kc18, kc19, kc20, kc21, kc22, kc23, kc24, kc25, kc26, kc27, kc28, kc29, kc30, kc31, kc32, kc33] at q20
    rw [bt_w] at q20
    refine hX _ ?_; conv => whnf
    refine hX _ ?_; conv => whnf
    unfold bearM at hR
    first | (rw [if_pos q20] at hR; exact hR) | (rw [if_neg q20] at hR; exact hR)
  · try simp (disch := omega) only [bg_w_id, Int.toNat_natCast, rw_land, sh_land, not_true_eq_false, kc0, kc1, kc2, kc3, kc4, kc5, kc6, kc7, kc8, kc9, kc10, kc11, kc12, kc13, kc14, kc15, kc16, kc17, kc18, kc19, kc20, kc21, kc22, kc23, kc24, kc25, kc26, kc27, kc28, kc29, kc30, kc31, kc32, kc33] at q20
    rw [bt_w] at q20
    iterate 9 (refine hX _ ?_; conv => whnf)
    refine hX _ ?_; conv => whnf
    try (simp (disch := omega) only [bg_w_id, Int.toNat_natCast, rw_land, sh_land, not_true_eq_false]; try conv => whnf)
    refine ⟨by first | omega | (simp (disch := omega) only [bg_w_id, Int.toNat_natCast, rw_land, sh_land, not_true_eq_false]; omega), ?_⟩
    iterate 3 (refine hX _ ?_; conv => whnf)
    refine hX _ ?_; conv => whnf
    refine ⟨by first | omega | decide | (simp (disch := omega) only [bg_w_id, Int.toNat_natCast, rw_land, sh_land, not_true_eq_false]; omega), ?_⟩
    refine hX _ ?_; conv => whnf
    refine hX _ ?_; conv => whnf
    unfold bearM at hR
    first | (rw [if_pos q20] at hR; exact hR) | (rw [if_neg q20] at hR; exact hR)
def netC (h : bg_G) (k : Int) (p : Nat) : Int := (if h (24 + p) 1 = k then h 73 p else 0) - (if h (24 + p) 0 = k then h 73 p else 0)
def netM (h : bg_G) (k : Int) (p : Nat) : Int := (if h 118 (7 * p + 1) = k then h 124 p else 0) - (if h 118 (7 * p) = k then h 124 p else 0)
theorem s_comes (d n : Nat) (k : Int) (hk : 0 ≤ k ∧ k ≤ 7) (h : bg_G) (ho : okC h) (Rt : bg_R) (hR : Rt (some (.inl (sm (h 22 3).toNat (netC h k)))) (bg_SH n, h)) : bg_Ca bg_MS (d + 1) 42 [vR 22, vI k, vR 73] (bg_SH n, h) Rt := by
  obtain ⟨⟨hn, -⟩, hrow, -⟩ := ho
  refine bg_ca (cd := cd_X2_comesMoreThanGoes) rfl rfl ?_
  intro X hX
  obtain ⟨N, hN⟩ : ∃ N : Nat, (N : Int) = h 22 3 := ⟨(h 22 3).toNat, by omega⟩
  have hN2 : (h 22 3).toNat = N := by omega
  rw [hN2] at hR
  have l1 : ∀ i, i ≤ N → X (5, [oR 22, oI k, oR 73, oI (sm i (netC h k)), oI (i : Int)], [], (bg_SH n, h), (0, 0)) := by
    refine lp_up N _ ?_ (fun i hi ih => ?_)
    · iterate 3 (refine hX _ ?_; conv => whnf)
      try simp only [kc0, kc1, kc2, kc3, kc4, kc5, kc6, kc7, kc8, kc9, kc10, kc11, kc12, kc13, kc14, kc15, kc16, kc17, kc18, kc19, kc20, kc21, kc22, kc23, kc24, kc25, kc26, kc27, kc28, kc29, kc30, kc31, kc32, kc33]
      refine hX _ ?_; conv => whnf
      refine ⟨fun q11 => ?_, fun q11 => ?_⟩
      · try simp (disch := omega) only [bg_w_id, Int.toNat_natCast, rw_land, sh_land, not_true_eq_false, kc0, kc1, kc2, kc3, kc4, kc5, kc6, kc7, kc8, kc9, kc10, kc11, kc12, kc13, kc14, kc15, kc16, kc17, kc18, kc19, kc20, kc21, kc22, kc23, kc24, kc25, kc26, kc27, kc28, kc29, kc30, kc31, kc32, kc33] at q11
        refine hX _ ?_; conv => whnf
        refine hX _ ?_; conv => whnf
        exact hR
      · exfalso
        (try simp (disch := omega) only [bg_w_id, Int.toNat_natCast, rw_land, sh_land, not_true_eq_false, kc0, kc1, kc2, kc3, kc4, kc5, kc6, kc7, kc8, kc9, kc10, kc11, kc12, kc13, kc14, kc15, kc16, kc17, kc18, kc19, kc20, kc21, kc22, kc23, kc24, kc25, kc26, kc27, kc28, kc29, kc30, kc31, kc32, kc33] at q11) <;> (omega)
    · have hr := hrow i (by omega)
      iterate 3 (refine hX _ ?_; conv => whnf)
      try simp only [kc0, kc1, kc2, kc3, kc4, kc5, kc6, kc7, kc8, kc9, kc10, kc11, kc12, kc13, kc14, kc15, kc16, kc17, kc18, kc19, kc20, kc21, kc22, kc23, kc24, kc25, kc26, kc27, kc28, kc29, kc30, kc31, kc32, kc33]
      refine hX _ ?_; conv => whnf
      refine ⟨fun q11 => ?_, fun q11 => ?_⟩
      · exfalso
        (try simp (disch := omega) only [bg_w_id, Int.toNat_natCast, rw_land, sh_land, not_true_eq_false, kc0, kc1, kc2, kc3, kc4, kc5, kc6, kc7, kc8, kc9, kc10, kc11, kc12, kc13, kc14, kc15, kc16, kc17, kc18, kc19, kc20, kc21, kc22, kc23, kc24, kc25, kc26, kc27, kc28, kc29, kc30, kc31, kc32, kc33] at q11) <;> (omega)
      · try simp (disch := omega) only [bg_w_id, Int.toNat_natCast, rw_land, sh_land, not_true_eq_false, kc0, kc1, kc2, kc3, kc4, kc5, kc6, kc7, kc8, kc9, kc10, kc11, kc12, kc13, kc14, kc15, kc16, kc17, kc18, kc19, kc20, kc21, kc22, kc23, kc24, kc25, kc26, kc27, kc28, kc29, kc30, kc31, kc32, kc33] at q11
        iterate 2 (refine hX _ ?_; conv => whnf)
        refine hX _ ?_; conv => whnf
        refine ⟨fun q18 => ?_, fun q18 => ?_⟩
        · exfalso
          (try simp (disch := omega) only [bg_w_id, Int.toNat_natCast, rw_land, sh_land, not_true_eq_false, kc0, kc1, kc2, kc3, kc4, kc5, kc6, kc7, kc8, kc9, kc10, kc11, kc12, kc13, kc14, kc15, kc16, kc17, kc18, kc19, kc20, kc21, kc22, kc23, kc24, kc25, kc26, kc27, kc28, kc29, kc30, kc31, kc32, kc33] at q18) <;> (omega)
        · try simp (disch := omega) only [bg_w_id, Int.toNat_natCast, rw_land, sh_land, not_true_eq_false, kc0, kc1, kc2, kc3, kc4, kc5, kc6, kc7, kc8, kc9, kc10, kc11, kc12, kc13, kc14, kc15, kc16, kc17, kc18, kc19, kc20, kc21, kc22, kc23, kc24, kc25, kc26, kc27, kc28, kc29, kc30, kc31, kc32, kc33] at q18
          iterate 3 (refine hX _ ?_; conv => whnf)
          refine hX _ ?_; conv => whnf
          refine ⟨fun q25 => ?_, fun q25 => ?_⟩
          · exfalso
            (try simp (disch := omega) only [bg_w_id, Int.toNat_natCast, rw_land, sh_land, not_true_eq_false, kc0, kc1, kc2, kc3, kc4, kc5, kc6, kc7, kc8, kc9, kc10, kc11, kc12, kc13, kc14, kc15, kc16, kc17, kc18, kc19, kc20, kc21, kc22, kc23, kc24, kc25, kc26, kc27, kc28, kc29, kc30, kc31, kc32, kc33] at q25) <;> (omega)
          · try simp (disch := omega) only [bg_w_id, Int.toNat_natCast, rw_land, sh_land, not_true_eq_false, kc0, kc1, kc2, kc3, kc4, kc5, kc6, kc7, kc8, kc9, kc10, kc11, kc12, kc13, kc14, kc15, kc16, kc17, kc18, kc19, kc20, kc21, kc22, kc23, kc24, kc25, kc26, kc27, kc28, kc29, kc30, kc31, kc32, kc33] at q25
            iterate 3 (refine hX _ ?_; conv => whnf)
            refine hX _ ?_; conv => whnf
            try (simp (disch := omega) only [bg_w_id, Int.toNat_natCast, rw_land, sh_land, not_true_eq_false]; try conv => whnf)
            refine ⟨by first | omega | (simp (disch := omega) only [bg_w_id, Int.toNat_natCast, rw_land, sh_land, not_true_eq_false]; omega), ?_⟩
            try (simp (disch := omega) only [bg_w_id, Int.toNat_natCast, rw_land, sh_land, not_true_eq_false])
            try conv => whnf
            refine hX _ ?_; conv => whnf
            refine hX _ ?_; conv => whnf
            try (simp (disch := omega) only [bg_w_id, Int.toNat_natCast, rw_land, sh_land, not_true_eq_false]; try conv => whnf)
            refine ⟨by first | omega | (simp (disch := omega) only [bg_w_id, Int.toNat_natCast, rw_land, sh_land, not_true_eq_false]; omega), ?_⟩
            refine hX _ ?_; conv => whnf
            refine hX _ ?_; conv => whnf
            refine ⟨fun q38 => ?_, fun q38 => ?_⟩
            · try simp (disch := omega) only [bg_w_id, Int.toNat_natCast, rw_land, sh_land, not_true_eq_false, kc0, kc1, kc2, kc3, kc4, kc5, kc6, kc7, kc8, kc9, kc10, kc11, kc12, kc13, kc14, kc15, kc16, kc17, kc18, kc19, kc20, kc21, kc22, kc23, kc24, kc25, kc26, kc27, kc28, kc29, kc30, kc31, kc32, kc33] at q38
              iterate 3 (refine hX _ ?_; conv => whnf)
              refine hX _ ?_; conv => whnf
              try (simp (disch := omega) only [bg_w_id, Int.toNat_natCast, rw_land, sh_land, not_true_eq_false]; try conv => whnf)
              refine ⟨by first | omega | (simp (disch := omega) only [bg_w_id, Int.toNat_natCast, rw_land, sh_land, not_true_eq_false]; omega), ?_⟩
              try (simp (disch := omega) only [bg_w_id, Int.toNat_natCast, rw_land, sh_land, not_true_eq_false])
              try conv => whnf
              refine hX _ ?_; conv => whnf
              refine hX _ ?_; conv => whnf
              try (simp (disch := omega) only [bg_w_id, Int.toNat_natCast, rw_land, sh_land, not_true_eq_false]; try conv => whnf)
              refine ⟨by first | omega | (simp (disch := omega) only [bg_w_id, Int.toNat_natCast, rw_land, sh_land, not_true_eq_false]; omega), ?_⟩
              refine hX _ ?_; conv => whnf
              refine hX _ ?_; conv => whnf
              refine ⟨fun q58 => ?_, fun q58 => ?_⟩
              · try simp (disch := omega) only [bg_w_id, Int.toNat_natCast, rw_land, sh_land, not_true_eq_false, kc0, kc1, kc2, kc3, kc4, kc5, kc6, kc7, kc8, kc9, kc10, kc11, kc12, kc13, kc14, kc15, kc16, kc17, kc18, kc19, kc20, kc21, kc22, kc23, kc24, kc25, kc26, kc27, kc28, kc29, kc30, kc31, kc32, kc33] at q58
                iterate 2 (refine hX _ ?_; conv => whnf)
                rw [show sm (i + 1) (netC h k) = sm i (netC h k) + netC h k i from rfl] at ih
                unfold netC at ih
                first | rw [if_pos q38, if_pos q58] at ih | rw [if_pos q38, if_neg q58] at ih | rw [if_neg q38, if_pos q58] at ih | rw [if_neg q38, if_neg q58] at ih
                first | exact ih | (have e := ih; rw [← Int.add_sub_assoc] at e; exact e) | (have e := ih; simp only [Int.sub_zero, Int.zero_sub, Int.add_zero, Int.sub_self, ← Int.add_sub_assoc] at e; exact e) | (simpa [Int.sub_eq_add_neg, Int.add_assoc] using ih)
              · try simp (disch := omega) only [bg_w_id, Int.toNat_natCast, rw_land, sh_land, not_true_eq_false, kc0, kc1, kc2, kc3, kc4, kc5, kc6, kc7, kc8, kc9, kc10, kc11, kc12, kc13, kc14, kc15, kc16, kc17, kc18, kc19, kc20, kc21, kc22, kc23, kc24, kc25, kc26, kc27, kc28, kc29, kc30, kc31, kc32, kc33] at q58
                iterate 3 (refine hX _ ?_; conv => whnf)
                refine hX _ ?_; conv => whnf
                try (simp (disch := omega) only [bg_w_id, Int.toNat_natCast, rw_land, sh_land, not_true_eq_false]; try conv => whnf)
                refine ⟨by first | omega | (simp (disch := omega) only [bg_w_id, Int.toNat_natCast, rw_land, sh_land, not_true_eq_false]; omega), ?_⟩
                iterate 4 (refine hX _ ?_; conv => whnf)
                rw [show sm (i + 1) (netC h k) = sm i (netC h k) + netC h k i from rfl] at ih
                unfold netC at ih
                first | rw [if_pos q38, if_pos q58] at ih | rw [if_pos q38, if_neg q58] at ih | rw [if_neg q38, if_pos q58] at ih | rw [if_neg q38, if_neg q58] at ih
                first | exact ih | (have e := ih; rw [← Int.add_sub_assoc] at e; exact e) | (have e := ih; simp only [Int.sub_zero, Int.zero_sub, Int.add_zero, Int.sub_self, ← Int.add_sub_assoc] at e; exact e) | (simpa [Int.sub_eq_add_neg, Int.add_assoc] using ih)
            · try simp (disch := omega) only [bg_w_id, Int.toNat_natCast, rw_land, sh_land, not_true_eq_false, kc0, kc1, kc2, kc3, kc4, kc5, kc6, kc7, kc8, kc9, kc10, kc11, kc12, kc13, kc14, kc15, kc16, kc17, kc18, kc19, kc20, kc21, kc22, kc23, kc24, kc25, kc26, kc27, kc28, kc29, kc30, kc31, kc32, kc33] at q38
              iterate 3 (refine hX _ ?_; conv => whnf)
              refine hX _ ?_; conv => whnf
              try (simp (disch := omega) only [bg_w_id, Int.toNat_natCast, rw_land, sh_land, not_true_eq_false]; try conv => whnf)
              refine ⟨by first | omega | (simp (disch := omega) only [bg_w_id, Int.toNat_natCast, rw_land, sh_land, not_true_eq_false]; omega), ?_⟩
              iterate 5 (refine hX _ ?_; conv => whnf)
              refine hX _ ?_; conv => whnf
              try (simp (disch := omega) only [bg_w_id, Int.toNat_natCast, rw_land, sh_land, not_true_eq_false]; try conv => whnf)
              refine ⟨by first | omega | (simp (disch := omega) only [bg_w_id, Int.toNat_natCast, rw_land, sh_land, not_true_eq_false]; omega), ?_⟩
              try (simp (disch := omega) only [bg_w_id, Int.toNat_natCast, rw_land, sh_land, not_true_eq_false])
              try conv => whnf
              refine hX _ ?_; conv => whnf
              refine hX _ ?_; conv => whnf
              try (simp (disch := omega) only [bg_w_id, Int.toNat_natCast, rw_land, sh_land, not_true_eq_false]; try conv => whnf)
              refine ⟨by first | omega | (simp (disch := omega) only [bg_w_id, Int.toNat_natCast, rw_land, sh_land, not_true_eq_false]; omega), ?_⟩
              refine hX _ ?_; conv => whnf
              refine hX _ ?_; conv => whnf
              refine ⟨fun q58 => ?_, fun q58 => ?_⟩
              · try simp (disch := omega) only [bg_w_id, Int.toNat_natCast, rw_land, sh_land, not_true_eq_false, kc0, kc1, kc2, kc3, kc4, kc5, kc6, kc7, kc8, kc9, kc10, kc11, kc12, kc13, kc14, kc15, kc16, kc17, kc18, kc19, kc20, kc21, kc22, kc23, kc24, kc25, kc26, kc27, kc28, kc29, kc30, kc31, kc32, kc33] at q58
                iterate 2 (refine hX _ ?_; conv => whnf)
                rw [show sm (i + 1) (netC h k) = sm i (netC h k) + netC h k i from rfl] at ih
                unfold netC at ih
                first | rw [if_pos q38, if_pos q58] at ih | rw [if_pos q38, if_neg q58] at ih | rw [if_neg q38, if_pos q58] at ih | rw [if_neg q38, if_neg q58] at ih
                first | exact ih | (have e := ih; rw [← Int.add_sub_assoc] at e; exact e) | (have e := ih; simp only [Int.sub_zero, Int.zero_sub, Int.add_zero, Int.sub_self, ← Int.add_sub_assoc] at e; exact e) | (simpa [Int.sub_eq_add_neg, Int.add_assoc] using ih)
              · try simp (disch := omega) only [bg_w_id, Int.toNat_natCast, rw_land, sh_land, not_true_eq_false, kc0, kc1, kc2, kc3, kc4, kc5, kc6, kc7, kc8, kc9, kc10, kc11, kc12, kc13, kc14, kc15, kc16, kc17, kc18, kc19, kc20, kc21, kc22, kc23, kc24, kc25, kc26, kc27, kc28, kc29, kc30, kc31, kc32, kc33] at q58
                iterate 3 (refine hX _ ?_; conv => whnf)
                refine hX _ ?_; conv => whnf
                try (simp (disch := omega) only [bg_w_id, Int.toNat_natCast, rw_land, sh_land, not_true_eq_false]; try conv => whnf)
                refine ⟨by first | omega | (simp (disch := omega) only [bg_w_id, Int.toNat_natCast, rw_land, sh_land, not_true_eq_false]; omega), ?_⟩
                iterate 4 (refine hX _ ?_; conv => whnf)
                rw [show sm (i + 1) (netC h k) = sm i (netC h k) + netC h k i from rfl] at ih
                unfold netC at ih
                first | rw [if_pos q38, if_pos q58] at ih | rw [if_pos q38, if_neg q58] at ih | rw [if_neg q38, if_pos q58] at ih | rw [if_neg q38, if_neg q58] at ih
                first | exact ih | (have e := ih; rw [← Int.add_sub_assoc] at e; exact e) | (have e := ih; simp only [Int.sub_zero, Int.zero_sub, Int.add_zero, Int.sub_self, ← Int.add_sub_assoc] at e; exact e) | (simpa [Int.sub_eq_add_neg, Int.add_assoc] using ih)
  iterate 4 (refine hX _ ?_; conv => whnf)
  exact l1 0 (by omega)
theorem s_mcomeTo (d n : Nat) (k : Int) (hk : 0 ≤ k ∧ k ≤ 7) (h : bg_G) (ho : okM h) (Rt : bg_R) (hR : Rt (some (.inl (sm (h 117 0).toNat (netM h k)))) (bg_SH n, h)) : bg_Ca bg_MS (d + 1) 143 [vR 115, vI k] (bg_SH n, h) Rt := by
  obtain ⟨⟨hn, -⟩, hrow, -⟩ := ho
  refine bg_ca (cd := cd_X9_comeTo) rfl rfl ?_
  intro X hX
  obtain ⟨N, hN⟩ : ∃ N : Nat, (N : Int) = h 117 0 := ⟨(h 117 0).toNat, by omega⟩
  have hN2 : (h 117 0).toNat = N := by omega
  rw [hN2] at hR
  have l1 : ∀ i, i ≤ N → X (4, [oR 115, oI k, oI (sm i (netM h k)), oI (i : Int)], [], (bg_SH n, h), (0, 0)) := by
    refine lp_up N _ ?_ (fun i hi ih => ?_)
    · iterate 4 (refine hX _ ?_; conv => whnf)
      refine hX _ ?_; conv => whnf
      try (simp (disch := omega) only [bg_w_id, Int.toNat_natCast, rw_land, sh_land, not_true_eq_false]; try conv => whnf)
      refine ⟨by first | omega | (simp (disch := omega) only [bg_w_id, Int.toNat_natCast, rw_land, sh_land, not_true_eq_false]; omega), ?_⟩
      refine hX _ ?_; conv => whnf
      refine ⟨fun q11 => ?_, fun q11 => ?_⟩
      · try simp (disch := omega) only [bg_w_id, Int.toNat_natCast, rw_land, sh_land, not_true_eq_false, kc0, kc1, kc2, kc3, kc4, kc5, kc6, kc7, kc8, kc9, kc10, kc11, kc12, kc13, kc14, kc15, kc16, kc17, kc18, kc19, kc20, kc21, kc22, kc23, kc24, kc25, kc26, kc27, kc28, kc29, kc30, kc31, kc32, kc33] at q11
        refine hX _ ?_; conv => whnf
        refine hX _ ?_; conv => whnf
        exact hR
      · exfalso
        (try simp (disch := omega) only [bg_w_id, Int.toNat_natCast, rw_land, sh_land, not_true_eq_false, kc0, kc1, kc2, kc3, kc4, kc5, kc6, kc7, kc8, kc9, kc10, kc11, kc12, kc13, kc14, kc15, kc16, kc17, kc18, kc19, kc20, kc21, kc22, kc23, kc24, kc25, kc26, kc27, kc28, kc29, kc30, kc31, kc32, kc33] at q11) <;> (omega)
    · have hr := hrow i (by omega)
      iterate 4 (refine hX _ ?_; conv => whnf)
      refine hX _ ?_; conv => whnf
      try (simp (disch := omega) only [bg_w_id, Int.toNat_natCast, rw_land, sh_land, not_true_eq_false]; try conv => whnf)
      refine ⟨by first | omega | (simp (disch := omega) only [bg_w_id, Int.toNat_natCast, rw_land, sh_land, not_true_eq_false]; omega), ?_⟩
      refine hX _ ?_; conv => whnf
      refine ⟨fun q11 => ?_, fun q11 => ?_⟩
      · exfalso
        (try simp (disch := omega) only [bg_w_id, Int.toNat_natCast, rw_land, sh_land, not_true_eq_false, kc0, kc1, kc2, kc3, kc4, kc5, kc6, kc7, kc8, kc9, kc10, kc11, kc12, kc13, kc14, kc15, kc16, kc17, kc18, kc19, kc20, kc21, kc22, kc23, kc24, kc25, kc26, kc27, kc28, kc29, kc30, kc31, kc32, kc33] at q11) <;> (omega)
      · try simp (disch := omega) only [bg_w_id, Int.toNat_natCast, rw_land, sh_land, not_true_eq_false, kc0, kc1, kc2, kc3, kc4, kc5, kc6, kc7, kc8, kc9, kc10, kc11, kc12, kc13, kc14, kc15, kc16, kc17, kc18, kc19, kc20, kc21, kc22, kc23, kc24, kc25, kc26, kc27, kc28, kc29, kc30, kc31, kc32, kc33] at q11
        iterate 8 (refine hX _ ?_; conv => whnf)
        refine hX _ ?_; conv => whnf
        try (simp (disch := omega) only [bg_w_id, Int.toNat_natCast, rw_land, sh_land, not_true_eq_false]; try conv => whnf)
        refine ⟨by first | omega | (simp (disch := omega) only [bg_w_id, Int.toNat_natCast, rw_land, sh_land, not_true_eq_false]; omega), ?_⟩
        refine hX _ ?_; conv => whnf
        refine hX _ ?_; conv => whnf
        refine ⟨fun q27 => ?_, fun q27 => ?_⟩
        · try simp (disch := omega) only [bg_w_id, Int.toNat_natCast, rw_land, sh_land, not_true_eq_false, kc0, kc1, kc2, kc3, kc4, kc5, kc6, kc7, kc8, kc9, kc10, kc11, kc12, kc13, kc14, kc15, kc16, kc17, kc18, kc19, kc20, kc21, kc22, kc23, kc24, kc25, kc26, kc27, kc28, kc29, kc30, kc31, kc32, kc33] at q27
          iterate 9 (refine hX _ ?_; conv => whnf)
          refine hX _ ?_; conv => whnf
          try (simp (disch := omega) only [bg_w_id, Int.toNat_natCast, rw_land, sh_land, not_true_eq_false]; try conv => whnf)
          refine ⟨by first | omega | (simp (disch := omega) only [bg_w_id, Int.toNat_natCast, rw_land, sh_land, not_true_eq_false]; omega), ?_⟩
          refine hX _ ?_; conv => whnf
          refine hX _ ?_; conv => whnf
          refine ⟨fun q53 => ?_, fun q53 => ?_⟩
          · try simp (disch := omega) only [bg_w_id, Int.toNat_natCast, rw_land, sh_land, not_true_eq_false, kc0, kc1, kc2, kc3, kc4, kc5, kc6, kc7, kc8, kc9, kc10, kc11, kc12, kc13, kc14, kc15, kc16, kc17, kc18, kc19, kc20, kc21, kc22, kc23, kc24, kc25, kc26, kc27, kc28, kc29, kc30, kc31, kc32, kc33] at q53
            iterate 5 (refine hX _ ?_; conv => whnf)
            rw [show sm (i + 1) (netM h k) = sm i (netM h k) + netM h k i from rfl] at ih
            unfold netM at ih
            first | rw [if_pos q27, if_pos q53] at ih | rw [if_pos q27, if_neg q53] at ih | rw [if_neg q27, if_pos q53] at ih | rw [if_neg q27, if_neg q53] at ih
            first | exact ih | (have e := ih; simp only [← Int.add_sub_assoc] at e; exact e)
          · try simp (disch := omega) only [bg_w_id, Int.toNat_natCast, rw_land, sh_land, not_true_eq_false, kc0, kc1, kc2, kc3, kc4, kc5, kc6, kc7, kc8, kc9, kc10, kc11, kc12, kc13, kc14, kc15, kc16, kc17, kc18, kc19, kc20, kc21, kc22, kc23, kc24, kc25, kc26, kc27, kc28, kc29, kc30, kc31, kc32, kc33] at q53
            iterate 3 (refine hX _ ?_; conv => whnf)
            refine hX _ ?_; conv => whnf
            try (simp (disch := omega) only [bg_w_id, Int.toNat_natCast, rw_land, sh_land, not_true_eq_false]; try conv => whnf)
            refine ⟨by first | omega | (simp (disch := omega) only [bg_w_id, Int.toNat_natCast, rw_land, sh_land, not_true_eq_false]; omega), ?_⟩
            iterate 5 (refine hX _ ?_; conv => whnf)
            rw [show sm (i + 1) (netM h k) = sm i (netM h k) + netM h k i from rfl] at ih
            unfold netM at ih
            first | rw [if_pos q27, if_pos q53] at ih | rw [if_pos q27, if_neg q53] at ih | rw [if_neg q27, if_pos q53] at ih | rw [if_neg q27, if_neg q53] at ih
            first | exact ih | (have e := ih; simp only [← Int.add_sub_assoc] at e; exact e)
        · try simp (disch := omega) only [bg_w_id, Int.toNat_natCast, rw_land, sh_land, not_true_eq_false, kc0, kc1, kc2, kc3, kc4, kc5, kc6, kc7, kc8, kc9, kc10, kc11, kc12, kc13, kc14, kc15, kc16, kc17, kc18, kc19, kc20, kc21, kc22, kc23, kc24, kc25, kc26, kc27, kc28, kc29, kc30, kc31, kc32, kc33] at q27
          iterate 3 (refine hX _ ?_; conv => whnf)
          refine hX _ ?_; conv => whnf
          try (simp (disch := omega) only [bg_w_id, Int.toNat_natCast, rw_land, sh_land, not_true_eq_false]; try conv => whnf)
          refine ⟨by first | omega | (simp (disch := omega) only [bg_w_id, Int.toNat_natCast, rw_land, sh_land, not_true_eq_false]; omega), ?_⟩
          iterate 9 (refine hX _ ?_; conv => whnf)
          refine hX _ ?_; conv => whnf
          try (simp (disch := omega) only [bg_w_id, Int.toNat_natCast, rw_land, sh_land, not_true_eq_false]; try conv => whnf)
          refine ⟨by first | omega | (simp (disch := omega) only [bg_w_id, Int.toNat_natCast, rw_land, sh_land, not_true_eq_false]; omega), ?_⟩
          refine hX _ ?_; conv => whnf
          refine hX _ ?_; conv => whnf
          refine ⟨fun q53 => ?_, fun q53 => ?_⟩
          · try simp (disch := omega) only [bg_w_id, Int.toNat_natCast, rw_land, sh_land, not_true_eq_false, kc0, kc1, kc2, kc3, kc4, kc5, kc6, kc7, kc8, kc9, kc10, kc11, kc12, kc13, kc14, kc15, kc16, kc17, kc18, kc19, kc20, kc21, kc22, kc23, kc24, kc25, kc26, kc27, kc28, kc29, kc30, kc31, kc32, kc33] at q53
            iterate 5 (refine hX _ ?_; conv => whnf)
            rw [show sm (i + 1) (netM h k) = sm i (netM h k) + netM h k i from rfl] at ih
            unfold netM at ih
            first | rw [if_pos q27, if_pos q53] at ih | rw [if_pos q27, if_neg q53] at ih | rw [if_neg q27, if_pos q53] at ih | rw [if_neg q27, if_neg q53] at ih
            first | exact ih | (have e := ih; simp only [← Int.add_sub_assoc] at e; exact e)
          · try simp (disch := omega) only [bg_w_id, Int.toNat_natCast, rw_land, sh_land, not_true_eq_false, kc0, kc1, kc2, kc3, kc4, kc5, kc6, kc7, kc8, kc9, kc10, kc11, kc12, kc13, kc14, kc15, kc16, kc17, kc18, kc19, kc20, kc21, kc22, kc23, kc24, kc25, kc26, kc27, kc28, kc29, kc30, kc31, kc32, kc33] at q53
            iterate 3 (refine hX _ ?_; conv => whnf)
            refine hX _ ?_; conv => whnf
            try (simp (disch := omega) only [bg_w_id, Int.toNat_natCast, rw_land, sh_land, not_true_eq_false]; try conv => whnf)
            refine ⟨by first | omega | (simp (disch := omega) only [bg_w_id, Int.toNat_natCast, rw_land, sh_land, not_true_eq_false]; omega), ?_⟩
            iterate 5 (refine hX _ ?_; conv => whnf)
            rw [show sm (i + 1) (netM h k) = sm i (netM h k) + netM h k i from rfl] at ih
            unfold netM at ih
            first | rw [if_pos q27, if_pos q53] at ih | rw [if_pos q27, if_neg q53] at ih | rw [if_neg q27, if_pos q53] at ih | rw [if_neg q27, if_neg q53] at ih
            first | exact ih | (have e := ih; simp only [← Int.add_sub_assoc] at e; exact e)
  iterate 4 (refine hX _ ?_; conv => whnf)
  exact l1 0 (by omega)
