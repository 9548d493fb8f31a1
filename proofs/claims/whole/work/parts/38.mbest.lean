theorem frM_T {h h' : bg_G} (hf : frM h h') (hT : TM h) : TM h' := by
  unfold TM
  rw [hf.1 117 (by omega) (by omega) (by omega) (by omega) (by omega), hf.1 119 (by omega) (by omega) (by omega) (by omega) (by omega), hf.1 120 (by omega) (by omega) (by omega) (by omega) (by omega)]
  exact hT
theorem frM_S {h h' : bg_G} (hf : frM h h') {s : Int} (hs : okS (h 117 0) (h 119 0) s) : okS (h' 117 0) (h' 119 0) s := by
  rw [hf.1 117 (by omega) (by omega) (by omega) (by omega) (by omega), hf.1 119 (by omega) (by omega) (by omega) (by omega) (by omega)]
  exact hs
/-- what all calls of the model may take for granted of book 0 -/
def wfM (h : bg_G) : Prop := okM h ∧ TM h ∧ lieM h
theorem wfM_fr {h h' : bg_G} (hg : wfM h) (hf : frM h h') : wfM h' := ⟨frM_ok hf hg.1, frM_T hf hg.2.1, hf.2.2⟩
theorem s_mB (d n : Nat) (s : Int) (hs : i32 s) (h : bg_G) (hg : wfM h) (hS : okS (h 117 0) (h 119 0) s) (Rt : bg_R) (hR : ∀ h' : bg_G, frM h h' → wfM h' → Rt (some (.inl (mostM h s))) (bg_SH n, h')) : bg_Ca bg_MS (d + 4) 140 [vR 115, vI s] (bg_SH n, h) Rt :=
  s_mmostBy d n s h hg.1 hg.2.2 (heldM_rg hg.1 hg.2.1 hs.2 hS) Rt (fun h' hf => hR h' hf (wfM_fr hg hf))
def setsM (h : bg_G) : Nat := 2 ^ (12 + (h 119 0).toNat)
theorem setsM_le {h : bg_G} (hg : wfM h) : setsM h ≤ 32768 ∧ 1 ≤ setsM h := by
  have := hg.1.1
  exact ⟨mt_le (by omega), Nat.one_le_two_pow⟩
theorem s_mbest (d n : Nat) (c w : Int) (hc : i32 c) (hw : i32 w) (h : bg_G) (hg : wfM h) (Rt : bg_R) (hR1 : (0 ≤ c ∧ c ≤ 300) → (0 ≤ w ∧ w ≤ 2) → ∀ h' : bg_G, frM h h' → Rt (some (.inl (if w = 0 then ((bestM h c (setsM h) : Nat) : Int) else if w = 1 then mostM h (bestM h c (setsM h) : Nat) else costM h (bestM h c (setsM h) : Nat)))) (bg_SH n, h')) (hR0 : ¬ ((0 ≤ c ∧ c ≤ 300) ∧ (0 ≤ w ∧ w ≤ 2)) → Rt (some (.inl (-1))) (bg_SH n, h)) : bg_Ca bg_MS (d + 6) 147 [vR 115, vI c, vI w] (bg_SH n, h) Rt := by
  have hM := setsM_le hg
  refine bg_ca (cd := cd_X9_best) rfl rfl ?_
  intro X hX
  by_cases c1 : 0 ≤ c ∧ c ≤ 300
  · by_cases c2 : 0 ≤ w ∧ w ≤ 2
    · have hR1 := hR1 c1 c2
      iterate 4 (refine hX _ ?_; conv => whnf)
      try simp (disch := omega) only [bg_w_id, Int.toNat_natCast, rw_land, sh_land, not_true_eq_false]
      refine hX _ ?_; conv => whnf
      try simp (disch := omega) only [bg_w_id, Int.toNat_natCast, rw_land, sh_land, not_true_eq_false]
      refine s_in_t (d + 4) _ _ _ _ _ (by omega) (by omega) (by omega) c1 ?_
      conv => whnf
      refine hX _ ?_; conv => whnf
      refine ⟨fun q9 => ?_, fun q9 => ?_⟩
      · exfalso
        (try simp (disch := omega) only [bg_w_id, Int.toNat_natCast, rw_land, sh_land, not_true_eq_false, kc0, kc1, kc2, kc3, kc4, kc5, kc6, kc7, kc8, kc9, kc10, kc11, kc12, kc13, kc14, kc15, kc16, kc17, kc18, kc19, kc20, kc21, kc22, kc23, kc24, kc25, kc26, kc27, kc28, kc29, kc30, kc31, kc32, kc33] at q9) <;> (omega)
      · try simp (disch := omega) only [bg_w_id, Int.toNat_natCast, rw_land, sh_land, not_true_eq_false, kc0, kc1, kc2, kc3, kc4, kc5, kc6, kc7, kc8, kc9, kc10, kc11, kc12, kc13, kc14, kc15, kc16, kc17, kc18, kc19, kc20, kc21, kc22, kc23, kc24, kc25, kc26, kc27, kc28, kc29, kc30, kc31, kc32, kc33] at q9
        iterate 4 (refine hX _ ?_; conv => whnf)
        try simp (disch := omega) only [bg_w_id, Int.toNat_natCast, rw_land, sh_land, not_true_eq_false]
        refine hX _ ?_; conv => whnf
        try simp (disch := omega) only [bg_w_id, Int.toNat_natCast, rw_land, sh_land, not_true_eq_false]
        refine s_in_t (d + 4) _ _ _ _ _ (by omega) (by omega) (by omega) c2 ?_
        conv => whnf
        refine hX _ ?_; conv => whnf
        refine ⟨fun q21 => ?_, fun q21 => ?_⟩
        · try simp (disch := omega) only [bg_w_id, Int.toNat_natCast, rw_land, sh_land, not_true_eq_false, kc0, kc1, kc2, kc3, kc4, kc5, kc6, kc7, kc8, kc9, kc10, kc11, kc12, kc13, kc14, kc15, kc16, kc17, kc18, kc19, kc20, kc21, kc22, kc23, kc24, kc25, kc26, kc27, kc28, kc29, kc30, kc31, kc32, kc33] at q21
          iterate 2 (refine hX _ ?_; conv => whnf)
          refine hX _ ?_; conv => whnf
          try simp (disch := omega) only [bg_w_id, Int.toNat_natCast, rw_land, sh_land, not_true_eq_false]
          refine s_mbestFor d n c hc h hg.1 hg.2.1 hg.2.2 _ (fun h' hf => ?_)
          rw [show 2 ^ (12 + (h 119 0).toNat) = setsM h from rfl]
          have hb := bestM_ok hg.1 c (setsM h)
          have hb1 := frM_S hf hb.1
          conv => whnf
          iterate 2 (refine hX _ ?_; conv => whnf)
          refine hX _ ?_; conv => whnf
          refine ⟨fun q33 => ?_, fun q33 => ?_⟩
          · try simp (disch := omega) only [bg_w_id, Int.toNat_natCast, rw_land, sh_land, not_true_eq_false, kc0, kc1, kc2, kc3, kc4, kc5, kc6, kc7, kc8, kc9, kc10, kc11, kc12, kc13, kc14, kc15, kc16, kc17, kc18, kc19, kc20, kc21, kc22, kc23, kc24, kc25, kc26, kc27, kc28, kc29, kc30, kc31, kc32, kc33] at q33
            iterate 2 (refine hX _ ?_; conv => whnf)
            refine hX _ ?_; conv => whnf
            refine ⟨fun q42 => ?_, fun q42 => ?_⟩
            · try simp (disch := omega) only [bg_w_id, Int.toNat_natCast, rw_land, sh_land, not_true_eq_false, kc0, kc1, kc2, kc3, kc4, kc5, kc6, kc7, kc8, kc9, kc10, kc11, kc12, kc13, kc14, kc15, kc16, kc17, kc18, kc19, kc20, kc21, kc22, kc23, kc24, kc25, kc26, kc27, kc28, kc29, kc30, kc31, kc32, kc33] at q42
              iterate 2 (refine hX _ ?_; conv => whnf)
              refine hX _ ?_; conv => whnf
              try simp (disch := omega) only [bg_w_id, Int.toNat_natCast, rw_land, sh_land, not_true_eq_false]
              refine s_mcostOf (d + 3) _ _ _ _ ?_
              rw [show sm 12 (fun i => bt ((bestM h c (setsM h) : Nat) : Int) i * h' 118 (7 * i + 4)) + sm 3 (fun t => bt ((bestM h c (setsM h) : Nat) : Int) (12 + t) * h' 120 (3 * t + 2)) = costM h (bestM h c (setsM h) : Nat) from frM_cost hf _]
              conv => whnf
              refine hX _ ?_; conv => whnf
              first
              | (have hR1 := hR1 h' hf; rw [if_pos (by omega)] at hR1; exact hR1)
              | (have hR1 := hR1 h2 (frM_trans hf hf2); rw [if_neg (by omega), if_pos (by omega)] at hR1; exact hR1)
              | (have hR1 := hR1 h' hf; rw [if_neg (by omega), if_neg (by omega)] at hR1; exact hR1)
            · try simp (disch := omega) only [bg_w_id, Int.toNat_natCast, rw_land, sh_land, not_true_eq_false, kc0, kc1, kc2, kc3, kc4, kc5, kc6, kc7, kc8, kc9, kc10, kc11, kc12, kc13, kc14, kc15, kc16, kc17, kc18, kc19, kc20, kc21, kc22, kc23, kc24, kc25, kc26, kc27, kc28, kc29, kc30, kc31, kc32, kc33] at q42
              iterate 2 (refine hX _ ?_; conv => whnf)
              refine hX _ ?_; conv => whnf
              try simp (disch := omega) only [bg_w_id, Int.toNat_natCast, rw_land, sh_land, not_true_eq_false]
              refine s_mB (d + 1) n (bestM h c (setsM h) : Nat) (by omega) h' (wfM_fr hg hf) hb1 _ (fun h2 hf2 _ => ?_)
              rw [frM_most hf]
              conv => whnf
              refine hX _ ?_; conv => whnf
              refine hX _ ?_; conv => whnf
              first
              | (have hR1 := hR1 h' hf; rw [if_pos (by omega)] at hR1; exact hR1)
              | (have hR1 := hR1 h2 (frM_trans hf hf2); rw [if_neg (by omega), if_pos (by omega)] at hR1; exact hR1)
              | (have hR1 := hR1 h' hf; rw [if_neg (by omega), if_neg (by omega)] at hR1; exact hR1)
          · try simp (disch := omega) only [bg_w_id, Int.toNat_natCast, rw_land, sh_land, not_true_eq_false, kc0, kc1, kc2, kc3, kc4, kc5, kc6, kc7, kc8, kc9, kc10, kc11, kc12, kc13, kc14, kc15, kc16, kc17, kc18, kc19, kc20, kc21, kc22, kc23, kc24, kc25, kc26, kc27, kc28, kc29, kc30, kc31, kc32, kc33] at q33
            iterate 2 (refine hX _ ?_; conv => whnf)
            refine hX _ ?_; conv => whnf
            first
            | (have hR1 := hR1 h' hf; rw [if_pos (by omega)] at hR1; exact hR1)
            | (have hR1 := hR1 h2 (frM_trans hf hf2); rw [if_neg (by omega), if_pos (by omega)] at hR1; exact hR1)
            | (have hR1 := hR1 h' hf; rw [if_neg (by omega), if_neg (by omega)] at hR1; exact hR1)
        · exfalso
          (try simp (disch := omega) only [bg_w_id, Int.toNat_natCast, rw_land, sh_land, not_true_eq_false, kc0, kc1, kc2, kc3, kc4, kc5, kc6, kc7, kc8, kc9, kc10, kc11, kc12, kc13, kc14, kc15, kc16, kc17, kc18, kc19, kc20, kc21, kc22, kc23, kc24, kc25, kc26, kc27, kc28, kc29, kc30, kc31, kc32, kc33] at q21) <;> (omega)
    · iterate 4 (refine hX _ ?_; conv => whnf)
      try simp (disch := omega) only [bg_w_id, Int.toNat_natCast, rw_land, sh_land, not_true_eq_false]
      refine hX _ ?_; conv => whnf
      try simp (disch := omega) only [bg_w_id, Int.toNat_natCast, rw_land, sh_land, not_true_eq_false]
      refine s_in_t (d + 4) _ _ _ _ _ (by omega) (by omega) (by omega) c1 ?_
      conv => whnf
      refine hX _ ?_; conv => whnf
      refine ⟨fun q9 => ?_, fun q9 => ?_⟩
      · exfalso
        (try simp (disch := omega) only [bg_w_id, Int.toNat_natCast, rw_land, sh_land, not_true_eq_false, kc0, kc1, kc2, kc3, kc4, kc5, kc6, kc7, kc8, kc9, kc10, kc11, kc12, kc13, kc14, kc15, kc16, kc17, kc18, kc19, kc20, kc21, kc22, kc23, kc24, kc25, kc26, kc27, kc28, kc29, kc30, kc31, kc32, kc33] at q9) <;> (omega)
      · try simp (disch := omega) only [bg_w_id, Int.toNat_natCast, rw_land, sh_land, not_true_eq_false, kc0, kc1, kc2, kc3, kc4, kc5, kc6, kc7, kc8, kc9, kc10, kc11, kc12, kc13, kc14, kc15, kc16, kc17, kc18, kc19, kc20, kc21, kc22, kc23, kc24, kc25, kc26, kc27, kc28, kc29, kc30, kc31, kc32, kc33] at q9
        iterate 4 (refine hX _ ?_; conv => whnf)
        try simp (disch := omega) only [bg_w_id, Int.toNat_natCast, rw_land, sh_land, not_true_eq_false]
        refine hX _ ?_; conv => whnf
        try simp (disch := omega) only [bg_w_id, Int.toNat_natCast, rw_land, sh_land, not_true_eq_false]
        refine s_in_f (d + 4) _ _ _ _ _ (by omega) (by omega) (by omega) c2 ?_
        conv => whnf
        refine hX _ ?_; conv => whnf
        refine ⟨fun q21 => ?_, fun q21 => ?_⟩
        · exfalso
          (try simp (disch := omega) only [bg_w_id, Int.toNat_natCast, rw_land, sh_land, not_true_eq_false, kc0, kc1, kc2, kc3, kc4, kc5, kc6, kc7, kc8, kc9, kc10, kc11, kc12, kc13, kc14, kc15, kc16, kc17, kc18, kc19, kc20, kc21, kc22, kc23, kc24, kc25, kc26, kc27, kc28, kc29, kc30, kc31, kc32, kc33] at q21) <;> (omega)
        · try simp (disch := omega) only [bg_w_id, Int.toNat_natCast, rw_land, sh_land, not_true_eq_false, kc0, kc1, kc2, kc3, kc4, kc5, kc6, kc7, kc8, kc9, kc10, kc11, kc12, kc13, kc14, kc15, kc16, kc17, kc18, kc19, kc20, kc21, kc22, kc23, kc24, kc25, kc26, kc27, kc28, kc29, kc30, kc31, kc32, kc33] at q21
          refine hX _ ?_; conv => whnf
          refine hX _ ?_; conv => whnf
          exact hR0 (fun e => c2 e.2)
  · iterate 4 (refine hX _ ?_; conv => whnf)
    try simp (disch := omega) only [bg_w_id, Int.toNat_natCast, rw_land, sh_land, not_true_eq_false]
    refine hX _ ?_; conv => whnf
    try simp (disch := omega) only [bg_w_id, Int.toNat_natCast, rw_land, sh_land, not_true_eq_false]
    refine s_in_f (d + 4) _ _ _ _ _ (by omega) (by omega) (by omega) c1 ?_
    conv => whnf
    refine hX _ ?_; conv => whnf
    refine ⟨fun q9 => ?_, fun q9 => ?_⟩
    · try simp (disch := omega) only [bg_w_id, Int.toNat_natCast, rw_land, sh_land, not_true_eq_false, kc0, kc1, kc2, kc3, kc4, kc5, kc6, kc7, kc8, kc9, kc10, kc11, kc12, kc13, kc14, kc15, kc16, kc17, kc18, kc19, kc20, kc21, kc22, kc23, kc24, kc25, kc26, kc27, kc28, kc29, kc30, kc31, kc32, kc33] at q9
      refine hX _ ?_; conv => whnf
      refine hX _ ?_; conv => whnf
      exact hR0 (fun e => c1 e.1)
    · exfalso
      (try simp (disch := omega) only [bg_w_id, Int.toNat_natCast, rw_land, sh_land, not_true_eq_false, kc0, kc1, kc2, kc3, kc4, kc5, kc6, kc7, kc8, kc9, kc10, kc11, kc12, kc13, kc14, kc15, kc16, kc17, kc18, kc19, kc20, kc21, kc22, kc23, kc24, kc25, kc26, kc27, kc28, kc29, kc30, kc31, kc32, kc33] at q9) <;> (omega)
theorem s_mmore (d n : Nat) (h : bg_G) (hg : wfM h) (Rt : bg_R) (hR : ∀ h' : bg_G, frM h h' → Rt (some (.inl (mostM h (bestM h (h 121 0) (setsM h) : Nat) - mostM h (bestM h (h 121 0 + 1) (setsM h) : Nat)))) (bg_SH n, h')) : bg_Ca bg_MS (d + 6) 149 [vR 115] (bg_SH n, h) Rt := by
  have hM := setsM_le hg
  have hn := hg.1.1
  refine bg_ca (cd := cd_X9_more) rfl rfl ?_
  intro X hX
  iterate 5 (refine hX _ ?_; conv => whnf)
  refine hX _ ?_; conv => whnf
  try (simp (disch := omega) only [bg_w_id, Int.toNat_natCast, rw_land, sh_land, not_true_eq_false]; try conv => whnf)
  refine ⟨by first | omega | (simp (disch := omega) only [bg_w_id, Int.toNat_natCast, rw_land, sh_land, not_true_eq_false]; omega), ?_⟩
  refine hX _ ?_; conv => whnf
  try simp (disch := omega) only [bg_w_id, Int.toNat_natCast, rw_land, sh_land, not_true_eq_false]
  refine s_mbestFor d n _ (by omega) h hg.1 hg.2.1 hg.2.2 _ (fun h1 hf1 => ?_)
  have hb := bestM_ok hg.1 (h 121 0) (setsM h)
  conv => whnf
  refine hX _ ?_; conv => whnf
  try simp (disch := omega) only [bg_w_id, Int.toNat_natCast, rw_land, sh_land, not_true_eq_false]
  refine s_mB (d + 1) n (bestM h (h 121 0) (setsM h) : Nat) (by omega) h1 (wfM_fr hg hf1) (frM_S hf1 hb.1) _ (fun h2 hf2 hg2 => ?_)
  rw [frM_most hf1]
  have hf2 := frM_trans hf1 hf2
  have e120 := hf2.1 121 (by omega) (by omega) (by omega) (by omega) (by omega)
  conv => whnf
  iterate 5 (refine hX _ ?_; conv => whnf)
  refine hX _ ?_; conv => whnf
  try (simp (disch := omega) only [bg_w_id, Int.toNat_natCast, rw_land, sh_land, not_true_eq_false]; try conv => whnf)
  refine ⟨by first | omega | (simp (disch := omega) only [bg_w_id, Int.toNat_natCast, rw_land, sh_land, not_true_eq_false]; omega), ?_⟩
  iterate 2 (refine hX _ ?_; conv => whnf)
  refine hX _ ?_; conv => whnf
  try simp (disch := omega) only [bg_w_id, Int.toNat_natCast, rw_land, sh_land, not_true_eq_false]
  rw [e120]
  refine s_mbestFor d n _ (by omega) h2 hg2.1 hg2.2.1 hg2.2.2 _ (fun h3 hf3 => ?_)
  rw [show bestM h2 (h 121 0 + 1) (2 ^ (12 + (h2 119 0).toNat)) = bestM h (h 121 0 + 1) (setsM h) by unfold bestM setsM; rw [hf2.1 117 (by omega) (by omega) (by omega) (by omega) (by omega), hf2.1 119 (by omega) (by omega) (by omega) (by omega) (by omega)]; simp only [frM_cost hf2, frM_most hf2]]
  have hb2 := bestM_ok hg.1 (h 121 0 + 1) (setsM h)
  have hf3 := frM_trans hf2 hf3
  conv => whnf
  refine hX _ ?_; conv => whnf
  try simp (disch := omega) only [bg_w_id, Int.toNat_natCast, rw_land, sh_land, not_true_eq_false]
  refine s_mB (d + 1) n (bestM h (h 121 0 + 1) (setsM h) : Nat) (by omega) h3 (wfM_fr hg hf3) (frM_S hf3 hb2.1) _ (fun h4 hf4 hg4 => ?_)
  rw [frM_most hf3]
  conv => whnf
  refine hX _ ?_; conv => whnf
  refine hX _ ?_; conv => whnf
  exact hR h4 (frM_trans hf3 hf4)
/-- the least coin -/
def fwF (ok : Nat → Prop) [DecidablePred ok] (v : Nat → Int) : Nat → Int
  | 0 => -4
  | n + 1 => if ok n then (if fwF ok v n = -4 ∨ v n < fwF ok v n then v n else fwF ok v n) else fwF ok v n
def fewM (h : bg_G) (l : Int) (n : Nat) : Int := fwF (fun s => okS (h 117 0) (h 119 0) (s : Int) ∧ mostM h s ≤ l) (fun s => costM h s) n
theorem fewM_rg {h : bg_G} (ho : okM h) (l : Int) : ∀ n, -4 ≤ fewM h l n ∧ fewM h l n ≤ 300
  | 0 => by unfold fewM fwF; omega
  | n + 1 => by
    have ih := fewM_rg ho l n
    have := costM_rg ho (n : Int)
    have e : fewM h l (n + 1) = if okS (h 117 0) (h 119 0) (n : Int) ∧ mostM h n ≤ l then (if fewM h l n = -4 ∨ costM h n < fewM h l n then costM h n else fewM h l n) else fewM h l n := rfl
    rw [e]
    split
    · split <;> omega
    · exact ih
theorem s_mfewest (d n : Nat) (l : Int) (hl : i32 l) (h : bg_G) (hg : wfM h) (Rt : bg_R) (hR1 : (0 ≤ l ∧ l ≤ 9999) → ∀ h' : bg_G, frM h h' → Rt (some (.inl (fewM h l (setsM h)))) (bg_SH n, h')) (hR0 : ¬ (0 ≤ l ∧ l ≤ 9999) → Rt (some (.inl (-1))) (bg_SH n, h)) : bg_Ca bg_MS (d + 5) 148 [vR 115, vI l] (bg_SH n, h) Rt := by
  have hn := hg.1.1
  obtain ⟨M, hM⟩ : ∃ M : Nat, M = setsM h := ⟨_, rfl⟩
  have hM2 := setsM_le hg
  rw [← hM] at hR1 hM2
  refine bg_ca (cd := cd_X9_fewest) rfl rfl ?_
  intro X hX
  by_cases c1 : 0 ≤ l ∧ l ≤ 9999
  · have hR1 := hR1 c1
    have l1 : ∀ q, q ≤ M → ∀ (h' : bg_G) (j4 : Option bg_V), frM h h' → X (19, [oR 115, oI l, oI (fewM h l q), oI (q : Int), j4], [], (bg_SH n, h'), (0, 0)) := by
      refine lp_up M _ ?_ (fun q hq ih => ?_)
      · intro h' j4 hf
        have e118 := hf.1 119 (by omega) (by omega) (by omega) (by omega) (by omega)
        iterate 2 (refine hX _ ?_; conv => whnf)
        refine hX _ ?_; conv => whnf
        try simp (disch := omega) only [bg_w_id, Int.toNat_natCast, rw_land, sh_land, not_true_eq_false]
        refine s_msetMany (d + 3) n h' (by rw [e118]; omega) _ ?_
        rw [e118, show 2 ^ (12 + (h 119 0).toNat) = M from hM.symm]
        conv => whnf
        refine hX _ ?_; conv => whnf
        refine ⟨fun q24 => ?_, fun q24 => ?_⟩
        · try simp (disch := omega) only [bg_w_id, Int.toNat_natCast, rw_land, sh_land, not_true_eq_false, kc0, kc1, kc2, kc3, kc4, kc5, kc6, kc7, kc8, kc9, kc10, kc11, kc12, kc13, kc14, kc15, kc16, kc17, kc18, kc19, kc20, kc21, kc22, kc23, kc24, kc25, kc26, kc27, kc28, kc29, kc30, kc31, kc32, kc33] at q24
          refine hX _ ?_; conv => whnf
          refine hX _ ?_; conv => whnf
          exact hR1 h' hf
        · exfalso
          (try simp (disch := omega) only [bg_w_id, Int.toNat_natCast, rw_land, sh_land, not_true_eq_false, kc0, kc1, kc2, kc3, kc4, kc5, kc6, kc7, kc8, kc9, kc10, kc11, kc12, kc13, kc14, kc15, kc16, kc17, kc18, kc19, kc20, kc21, kc22, kc23, kc24, kc25, kc26, kc27, kc28, kc29, kc30, kc31, kc32, kc33] at q24) <;> (omega)
      · intro h' j4 hf
        have e118 := hf.1 119 (by omega) (by omega) (by omega) (by omega) (by omega)
        have es : fewM h l (q + 1) = if okS (h 117 0) (h 119 0) (q : Int) ∧ mostM h q ≤ l then (if fewM h l q = -4 ∨ costM h q < fewM h l q then costM h q else fewM h l q) else fewM h l q := rfl
        rw [es] at ih
        have rc := costM_rg hg.1 (q : Int)
        have rm := mostM_rg hg.1 (q : Int)
        have rf := fewM_rg hg.1 l q
        by_cases c2 : okS (h 117 0) (h 119 0) (q : Int)
        · iterate 2 (refine hX _ ?_; conv => whnf)
          refine hX _ ?_; conv => whnf
          try simp (disch := omega) only [bg_w_id, Int.toNat_natCast, rw_land, sh_land, not_true_eq_false]
          refine s_msetMany (d + 3) n h' (by rw [e118]; omega) _ ?_
          rw [e118, show 2 ^ (12 + (h 119 0).toNat) = M from hM.symm]
          conv => whnf
          refine hX _ ?_; conv => whnf
          refine ⟨fun q24 => ?_, fun q24 => ?_⟩
          · exfalso
            (try simp (disch := omega) only [bg_w_id, Int.toNat_natCast, rw_land, sh_land, not_true_eq_false, kc0, kc1, kc2, kc3, kc4, kc5, kc6, kc7, kc8, kc9, kc10, kc11, kc12, kc13, kc14, kc15, kc16, kc17, kc18, kc19, kc20, kc21, kc22, kc23, kc24, kc25, kc26, kc27, kc28, kc29, kc30, kc31, kc32, kc33] at q24) <;> (omega)
          · try simp (disch := omega) only [bg_w_id, Int.toNat_natCast, rw_land, sh_land, not_true_eq_false, kc0, kc1, kc2, kc3, kc4, kc5, kc6, kc7, kc8, kc9, kc10, kc11, kc12, kc13, kc14, kc15, kc16, kc17, kc18, kc19, kc20, kc21, kc22, kc23, kc24, kc25, kc26, kc27, kc28, kc29, kc30, kc31, kc32, kc33] at q24
            iterate 2 (refine hX _ ?_; conv => whnf)
            refine hX _ ?_; conv => whnf
            try simp (disch := omega) only [bg_w_id, Int.toNat_natCast, rw_land, sh_land, not_true_eq_false]
            refine s_ap_t (d + 3) _ _ _ _ (by omega) (frM_S hf c2) ?_
            conv => whnf
            refine hX _ ?_; conv => whnf
            refine ⟨fun q32 => ?_, fun q32 => ?_⟩
            · exfalso
              (try simp (disch := omega) only [bg_w_id, Int.toNat_natCast, rw_land, sh_land, not_true_eq_false, kc0, kc1, kc2, kc3, kc4, kc5, kc6, kc7, kc8, kc9, kc10, kc11, kc12, kc13, kc14, kc15, kc16, kc17, kc18, kc19, kc20, kc21, kc22, kc23, kc24, kc25, kc26, kc27, kc28, kc29, kc30, kc31, kc32, kc33] at q32) <;> (omega)
            · try simp (disch := omega) only [bg_w_id, Int.toNat_natCast, rw_land, sh_land, not_true_eq_false, kc0, kc1, kc2, kc3, kc4, kc5, kc6, kc7, kc8, kc9, kc10, kc11, kc12, kc13, kc14, kc15, kc16, kc17, kc18, kc19, kc20, kc21, kc22, kc23, kc24, kc25, kc26, kc27, kc28, kc29, kc30, kc31, kc32, kc33] at q32
              iterate 2 (refine hX _ ?_; conv => whnf)
              refine hX _ ?_; conv => whnf
              try simp (disch := omega) only [bg_w_id, Int.toNat_natCast, rw_land, sh_land, not_true_eq_false]
              refine s_mB d n q (by omega) h' (wfM_fr hg hf) (frM_S hf c2) _ (fun h2 hf2 hg2 => ?_)
              rw [frM_most hf]
              have hf2 := frM_trans hf hf2
              conv => whnf
              refine hX _ ?_; conv => whnf
              refine hX _ ?_; conv => whnf
              refine ⟨fun q41 => ?_, fun q41 => ?_⟩
              · try simp (disch := omega) only [bg_w_id, Int.toNat_natCast, rw_land, sh_land, not_true_eq_false, kc0, kc1, kc2, kc3, kc4, kc5, kc6, kc7, kc8, kc9, kc10, kc11, kc12, kc13, kc14, kc15, kc16, kc17, kc18, kc19, kc20, kc21, kc22, kc23, kc24, kc25, kc26, kc27, kc28, kc29, kc30, kc31, kc32, kc33] at q41
                rw [if_neg (fun e => absurd e.2 (by omega))] at ih
                iterate 2 (refine hX _ ?_; conv => whnf)
                first
                | exact ih _ _ hf2
                | (rw [if_pos (by omega)] at ih; exact ih _ _ hf2)
                | (rw [if_neg (by omega)] at ih; exact ih _ _ hf2)
              · try simp (disch := omega) only [bg_w_id, Int.toNat_natCast, rw_land, sh_land, not_true_eq_false, kc0, kc1, kc2, kc3, kc4, kc5, kc6, kc7, kc8, kc9, kc10, kc11, kc12, kc13, kc14, kc15, kc16, kc17, kc18, kc19, kc20, kc21, kc22, kc23, kc24, kc25, kc26, kc27, kc28, kc29, kc30, kc31, kc32, kc33] at q41
                rw [if_pos ⟨c2, by omega⟩] at ih
                iterate 2 (refine hX _ ?_; conv => whnf)
                refine hX _ ?_; conv => whnf
                try simp (disch := omega) only [bg_w_id, Int.toNat_natCast, rw_land, sh_land, not_true_eq_false]
                refine s_mcostOf (d + 2) _ _ _ _ ?_
                rw [show sm 12 (fun i => bt (q : Int) i * h2 118 (7 * i + 4)) + sm 3 (fun t => bt (q : Int) (12 + t) * h2 120 (3 * t + 2)) = costM h q from frM_cost hf2 q]
                conv => whnf
                iterate 3 (refine hX _ ?_; conv => whnf)
                refine hX _ ?_; conv => whnf
                refine ⟨fun q54 => ?_, fun q54 => ?_⟩
                · try simp (disch := omega) only [bg_w_id, Int.toNat_natCast, rw_land, sh_land, not_true_eq_false, kc0, kc1, kc2, kc3, kc4, kc5, kc6, kc7, kc8, kc9, kc10, kc11, kc12, kc13, kc14, kc15, kc16, kc17, kc18, kc19, kc20, kc21, kc22, kc23, kc24, kc25, kc26, kc27, kc28, kc29, kc30, kc31, kc32, kc33] at q54
                  iterate 5 (refine hX _ ?_; conv => whnf)
                  first
                  | exact ih _ _ hf2
                  | (rw [if_pos (by omega)] at ih; exact ih _ _ hf2)
                  | (rw [if_neg (by omega)] at ih; exact ih _ _ hf2)
                · try simp (disch := omega) only [bg_w_id, Int.toNat_natCast, rw_land, sh_land, not_true_eq_false, kc0, kc1, kc2, kc3, kc4, kc5, kc6, kc7, kc8, kc9, kc10, kc11, kc12, kc13, kc14, kc15, kc16, kc17, kc18, kc19, kc20, kc21, kc22, kc23, kc24, kc25, kc26, kc27, kc28, kc29, kc30, kc31, kc32, kc33] at q54
                  iterate 2 (refine hX _ ?_; conv => whnf)
                  refine hX _ ?_; conv => whnf
                  refine ⟨fun q60 => ?_, fun q60 => ?_⟩
                  · try simp (disch := omega) only [bg_w_id, Int.toNat_natCast, rw_land, sh_land, not_true_eq_false, kc0, kc1, kc2, kc3, kc4, kc5, kc6, kc7, kc8, kc9, kc10, kc11, kc12, kc13, kc14, kc15, kc16, kc17, kc18, kc19, kc20, kc21, kc22, kc23, kc24, kc25, kc26, kc27, kc28, kc29, kc30, kc31, kc32, kc33] at q60
                    iterate 4 (refine hX _ ?_; conv => whnf)
                    first
                    | exact ih _ _ hf2
                    | (rw [if_pos (by omega)] at ih; exact ih _ _ hf2)
                    | (rw [if_neg (by omega)] at ih; exact ih _ _ hf2)
                  · try simp (disch := omega) only [bg_w_id, Int.toNat_natCast, rw_land, sh_land, not_true_eq_false, kc0, kc1, kc2, kc3, kc4, kc5, kc6, kc7, kc8, kc9, kc10, kc11, kc12, kc13, kc14, kc15, kc16, kc17, kc18, kc19, kc20, kc21, kc22, kc23, kc24, kc25, kc26, kc27, kc28, kc29, kc30, kc31, kc32, kc33] at q60
                    iterate 5 (refine hX _ ?_; conv => whnf)
                    first
                    | exact ih _ _ hf2
                    | (rw [if_pos (by omega)] at ih; exact ih _ _ hf2)
                    | (rw [if_neg (by omega)] at ih; exact ih _ _ hf2)
        · iterate 2 (refine hX _ ?_; conv => whnf)
          refine hX _ ?_; conv => whnf
          try simp (disch := omega) only [bg_w_id, Int.toNat_natCast, rw_land, sh_land, not_true_eq_false]
          refine s_msetMany (d + 3) n h' (by rw [e118]; omega) _ ?_
          rw [e118, show 2 ^ (12 + (h 119 0).toNat) = M from hM.symm]
          conv => whnf
          refine hX _ ?_; conv => whnf
          refine ⟨fun q24 => ?_, fun q24 => ?_⟩
          · exfalso
            (try simp (disch := omega) only [bg_w_id, Int.toNat_natCast, rw_land, sh_land, not_true_eq_false, kc0, kc1, kc2, kc3, kc4, kc5, kc6, kc7, kc8, kc9, kc10, kc11, kc12, kc13, kc14, kc15, kc16, kc17, kc18, kc19, kc20, kc21, kc22, kc23, kc24, kc25, kc26, kc27, kc28, kc29, kc30, kc31, kc32, kc33] at q24) <;> (omega)
          · try simp (disch := omega) only [bg_w_id, Int.toNat_natCast, rw_land, sh_land, not_true_eq_false, kc0, kc1, kc2, kc3, kc4, kc5, kc6, kc7, kc8, kc9, kc10, kc11, kc12, kc13, kc14, kc15, kc16, kc17, kc18, kc19, kc20, kc21, kc22, kc23, kc24, kc25, kc26, kc27, kc28, kc29, kc30, kc31, kc32, kc33] at q24
            iterate 2 (refine hX _ ?_; conv => whnf)
            refine hX _ ?_; conv => whnf
            try simp (disch := omega) only [bg_w_id, Int.toNat_natCast, rw_land, sh_land, not_true_eq_false]
            refine s_ap_f (d + 3) _ _ _ _ (by omega) (fun e => c2 (by rw [hf.1 117 (by omega) (by omega) (by omega) (by omega) (by omega), e118] at e; exact e)) ?_
            conv => whnf
            refine hX _ ?_; conv => whnf
            refine ⟨fun q32 => ?_, fun q32 => ?_⟩
            · try simp (disch := omega) only [bg_w_id, Int.toNat_natCast, rw_land, sh_land, not_true_eq_false, kc0, kc1, kc2, kc3, kc4, kc5, kc6, kc7, kc8, kc9, kc10, kc11, kc12, kc13, kc14, kc15, kc16, kc17, kc18, kc19, kc20, kc21, kc22, kc23, kc24, kc25, kc26, kc27, kc28, kc29, kc30, kc31, kc32, kc33] at q32
              iterate 2 (refine hX _ ?_; conv => whnf)
              rw [if_neg (fun e => c2 e.1)] at ih
              exact ih _ _ hf
            · exfalso
              (try simp (disch := omega) only [bg_w_id, Int.toNat_natCast, rw_land, sh_land, not_true_eq_false, kc0, kc1, kc2, kc3, kc4, kc5, kc6, kc7, kc8, kc9, kc10, kc11, kc12, kc13, kc14, kc15, kc16, kc17, kc18, kc19, kc20, kc21, kc22, kc23, kc24, kc25, kc26, kc27, kc28, kc29, kc30, kc31, kc32, kc33] at q32) <;> (omega)
    iterate 4 (refine hX _ ?_; conv => whnf)
    try simp (disch := omega) only [bg_w_id, Int.toNat_natCast, rw_land, sh_land, not_true_eq_false]
    refine hX _ ?_; conv => whnf
    try simp (disch := omega) only [bg_w_id, Int.toNat_natCast, rw_land, sh_land, not_true_eq_false]
    refine s_in_t (d + 3) _ _ _ _ _ (by omega) (by omega) (by omega) c1 ?_
    conv => whnf
    refine hX _ ?_; conv => whnf
    refine ⟨fun q9 => ?_, fun q9 => ?_⟩
    · try simp (disch := omega) only [bg_w_id, Int.toNat_natCast, rw_land, sh_land, not_true_eq_false, kc0, kc1, kc2, kc3, kc4, kc5, kc6, kc7, kc8, kc9, kc10, kc11, kc12, kc13, kc14, kc15, kc16, kc17, kc18, kc19, kc20, kc21, kc22, kc23, kc24, kc25, kc26, kc27, kc28, kc29, kc30, kc31, kc32, kc33] at q9
      iterate 4 (refine hX _ ?_; conv => whnf)
      exact l1 0 (by omega) h _ (frM_refl hg.2.2)
    · exfalso
      (try simp (disch := omega) only [bg_w_id, Int.toNat_natCast, rw_land, sh_land, not_true_eq_false, kc0, kc1, kc2, kc3, kc4, kc5, kc6, kc7, kc8, kc9, kc10, kc11, kc12, kc13, kc14, kc15, kc16, kc17, kc18, kc19, kc20, kc21, kc22, kc23, kc24, kc25, kc26, kc27, kc28, kc29, kc30, kc31, kc32, kc33] at q9) <;> (omega)
  · iterate 4 (refine hX _ ?_; conv => whnf)
    try simp (disch := omega) only [bg_w_id, Int.toNat_natCast, rw_land, sh_land, not_true_eq_false]
    refine hX _ ?_; conv => whnf
    try simp (disch := omega) only [bg_w_id, Int.toNat_natCast, rw_land, sh_land, not_true_eq_false]
    refine s_in_f (d + 3) _ _ _ _ _ (by omega) (by omega) (by omega) c1 ?_
    conv => whnf
    refine hX _ ?_; conv => whnf
    refine ⟨fun q9 => ?_, fun q9 => ?_⟩
    · exfalso
      (try simp (disch := omega) only [bg_w_id, Int.toNat_natCast, rw_land, sh_land, not_true_eq_false, kc0, kc1, kc2, kc3, kc4, kc5, kc6, kc7, kc8, kc9, kc10, kc11, kc12, kc13, kc14, kc15, kc16, kc17, kc18, kc19, kc20, kc21, kc22, kc23, kc24, kc25, kc26, kc27, kc28, kc29, kc30, kc31, kc32, kc33] at q9) <;> (omega)
    · try simp (disch := omega) only [bg_w_id, Int.toNat_natCast, rw_land, sh_land, not_true_eq_false, kc0, kc1, kc2, kc3, kc4, kc5, kc6, kc7, kc8, kc9, kc10, kc11, kc12, kc13, kc14, kc15, kc16, kc17, kc18, kc19, kc20, kc21, kc22, kc23, kc24, kc25, kc26, kc27, kc28, kc29, kc30, kc31, kc32, kc33] at q9
      refine hX _ ?_; conv => whnf
      refine hX _ ?_; conv => whnf
      exact hR0 c1
def waitM (h : bg_G) (held : Int) : Int := sm 12 (fun i => bt held i * h 118 (7 * i + 6))
theorem waitM_rg {h : bg_G} (ho : okM h) (s : Int) : 0 ≤ waitM h s ∧ waitM h s ≤ 1188 := by
  have a := bt_sm_rg (n := 12) (s := fun i => bt s i) (f := fun i => h 118 (7 * i + 6)) (B := 99) (fun i => bt_01 _ _) (fun i hi => by have := ho.2.1 i hi; show 0 ≤ h 118 (7 * i + 6) ∧ h 118 (7 * i + 6) ≤ 99; omega) (by omega)
  unfold waitM
  omega
def wgM (h : bg_G) (a b s : Int) : Int := a * mostM h s + b * waitM h (heldM h s)
theorem mul_rg {a x A B : Int} (ha : 0 ≤ a ∧ a ≤ A) (hx : 0 ≤ x ∧ x ≤ B) : 0 ≤ a * x ∧ a * x ≤ A * B := ⟨Int.mul_nonneg ha.1 hx.1, Int.mul_le_mul ha.2 hx.2 hx.1 (by omega)⟩
theorem wgM_rg {h : bg_G} (ho : okM h) {a b s : Int} (ha : 0 ≤ a ∧ a ≤ 99) (hb : 0 ≤ b ∧ b ≤ 99) : 0 ≤ wgM h a b s ∧ wgM h a b s ≤ 300000 := by
  have h1 := mul_rg ha (mostM_rg ho s)
  have h2 := mul_rg hb (waitM_rg ho (heldM h s))
  unfold wgM
  omega
theorem frM_wg {h h' : bg_G} (hf : frM h h') (a b s : Int) : wgM h' a b s = wgM h a b s := by
  unfold wgM waitM
  rw [frM_most hf, frM_held hf, hf.1 118 (by omega) (by omega) (by omega) (by omega) (by omega)]
theorem s_mweigh (d n : Nat) (s a b : Int) (hs : i32 s) (h : bg_G) (hg : wfM h) (hS : okS (h 117 0) (h 119 0) s) (Rt : bg_R) (hR : ∀ h' : bg_G, frM h h' → wfM h' → Rt (some (.inl (wgM h a b s))) (bg_SH n, h')) : bg_Ca bg_MS (d + 5) 151 [vR 115, vI s, vI a, vI b] (bg_SH n, h) Rt := by
  refine bg_ca (cd := cd_X9_weigh) rfl rfl ?_
  intro X hX
  iterate 3 (refine hX _ ?_; conv => whnf)
  refine hX _ ?_; conv => whnf
  try simp (disch := omega) only [bg_w_id, Int.toNat_natCast, rw_land, sh_land, not_true_eq_false]
  refine s_mB d n s hs h hg hS _ (fun h' hf hg' => ?_)
  conv => whnf
  iterate 5 (refine hX _ ?_; conv => whnf)
  refine hX _ ?_; conv => whnf
  try simp (disch := omega) only [bg_w_id, Int.toNat_natCast, rw_land, sh_land, not_true_eq_false]
  refine s_mheldBy (d + 2) _ _ _ _ ?_
  rw [frM_held hf]
  conv => whnf
  refine hX _ ?_; conv => whnf
  try simp (disch := omega) only [bg_w_id, Int.toNat_natCast, rw_land, sh_land, not_true_eq_false]
  refine s_mwaitsBy (d + 2) _ _ _ _ ?_
  rw [hf.1 118 (by omega) (by omega) (by omega) (by omega) (by omega)]
  conv => whnf
  iterate 2 (refine hX _ ?_; conv => whnf)
  refine hX _ ?_; conv => whnf
  exact hR h' hf hg'
def wdM (h : bg_G) (a b : Int) (n : Nat) : Nat := bsF (fun s => okS (h 117 0) (h 119 0) (s : Int) ∧ costM h s ≤ h 121 0) (fun s => wgM h a b s) n
theorem wdM_ok {h : bg_G} (ho : okM h) (a b : Int) : ∀ n, okS (h 117 0) (h 119 0) (wdM h a b n : Nat) ∧ wdM h a b n ≤ n
  | 0 => ⟨okS_0 ho.1.1 ho.1.2.1, Nat.le_refl _⟩
  | n + 1 => by
    have ih := wdM_ok ho a b n
    unfold wdM bsF
    split
    · rename_i c; exact ⟨c.1.2.1, by omega⟩
    · exact ⟨ih.1, by have := ih.2; unfold wdM at this; omega⟩
theorem s_mweighed (d n : Nat) (a b w : Int) (ha : i32 a) (hb : i32 b) (hw : i32 w) (h : bg_G) (hg : wfM h) (Rt : bg_R) (hR1 : (0 ≤ a ∧ a ≤ 99) → (0 ≤ b ∧ b ≤ 99) → (0 ≤ w ∧ w ≤ 1) → ∀ h' : bg_G, frM h h' → Rt (some (.inl (if w = 0 then ((wdM h a b (setsM h) : Nat) : Int) else wgM h a b (wdM h a b (setsM h) : Nat)))) (bg_SH n, h')) (hR0 : ¬ ((0 ≤ a ∧ a ≤ 99) ∧ (0 ≤ b ∧ b ≤ 99) ∧ (0 ≤ w ∧ w ≤ 1)) → Rt (some (.inl (-1))) (bg_SH n, h)) : bg_Ca bg_MS (d + 6) 152 [vR 115, vI a, vI b, vI w] (bg_SH n, h) Rt := by
  have hn := hg.1.1
  obtain ⟨M, hM⟩ : ∃ M : Nat, M = setsM h := ⟨_, rfl⟩
  have hM2 := setsM_le hg
  rw [← hM] at hR1 hM2
  refine bg_ca (cd := cd_X9_weighed) rfl rfl ?_
  intro X hX
  by_cases c1 : 0 ≤ a ∧ a ≤ 99
  · by_cases c2 : 0 ≤ b ∧ b ≤ 99
    · by_cases c3 : 0 ≤ w ∧ w ≤ 1
      · have hR1 := hR1 c1 c2 c3
        have l1 : ∀ q, q ≤ M → 1 ≤ q → ∀ (h' : bg_G), frM h h' → X (42, [oR 115, oI a, oI b, oI w, oI (wdM h a b q : Nat), oI (q : Int)], [], (bg_SH n, h'), (0, 0)) := by
          refine lp_up M _ ?_ (fun q hq ih => ?_)
          · intro _ h' hf
            have e118 := hf.1 119 (by omega) (by omega) (by omega) (by omega) (by omega)
            have hb := wdM_ok hg.1 a b M
            iterate 2 (refine hX _ ?_; conv => whnf)
            refine hX _ ?_; conv => whnf
            try simp (disch := omega) only [bg_w_id, Int.toNat_natCast, rw_land, sh_land, not_true_eq_false]
            refine s_msetMany (d + 4) n h' (by rw [e118]; omega) _ ?_
            rw [e118, show 2 ^ (12 + (h 119 0).toNat) = M from hM.symm]
            conv => whnf
            refine hX _ ?_; conv => whnf
            refine ⟨fun q48 => ?_, fun q48 => ?_⟩
            · try simp (disch := omega) only [bg_w_id, Int.toNat_natCast, rw_land, sh_land, not_true_eq_false, kc0, kc1, kc2, kc3, kc4, kc5, kc6, kc7, kc8, kc9, kc10, kc11, kc12, kc13, kc14, kc15, kc16, kc17, kc18, kc19, kc20, kc21, kc22, kc23, kc24, kc25, kc26, kc27, kc28, kc29, kc30, kc31, kc32, kc33] at q48
              refine hX _ ?_; conv => whnf
              refine hX _ ?_; conv => whnf
              refine ⟨fun q105 => ?_, fun q105 => ?_⟩
              · try simp (disch := omega) only [bg_w_id, Int.toNat_natCast, rw_land, sh_land, not_true_eq_false, kc0, kc1, kc2, kc3, kc4, kc5, kc6, kc7, kc8, kc9, kc10, kc11, kc12, kc13, kc14, kc15, kc16, kc17, kc18, kc19, kc20, kc21, kc22, kc23, kc24, kc25, kc26, kc27, kc28, kc29, kc30, kc31, kc32, kc33] at q105
                iterate 4 (refine hX _ ?_; conv => whnf)
                refine hX _ ?_; conv => whnf
                try simp (disch := omega) only [bg_w_id, Int.toNat_natCast, rw_land, sh_land, not_true_eq_false]
                refine s_mweigh d n _ _ _ (by omega) h' (wfM_fr hg hf) (frM_S hf hb.1) _ (fun h2 hf2 _ => ?_)
                rw [frM_wg hf]
                conv => whnf
                refine hX _ ?_; conv => whnf
                first
                | (have hR1 := hR1 h' hf; rw [if_pos (by omega)] at hR1; exact hR1)
                | (have hR1 := hR1 h2 (frM_trans hf hf2); rw [if_neg (by omega)] at hR1; exact hR1)
              · try simp (disch := omega) only [bg_w_id, Int.toNat_natCast, rw_land, sh_land, not_true_eq_false, kc0, kc1, kc2, kc3, kc4, kc5, kc6, kc7, kc8, kc9, kc10, kc11, kc12, kc13, kc14, kc15, kc16, kc17, kc18, kc19, kc20, kc21, kc22, kc23, kc24, kc25, kc26, kc27, kc28, kc29, kc30, kc31, kc32, kc33] at q105
                iterate 2 (refine hX _ ?_; conv => whnf)
                refine hX _ ?_; conv => whnf
                first
                | (have hR1 := hR1 h' hf; rw [if_pos (by omega)] at hR1; exact hR1)
                | (have hR1 := hR1 h2 (frM_trans hf hf2); rw [if_neg (by omega)] at hR1; exact hR1)
            · exfalso
              (try simp (disch := omega) only [bg_w_id, Int.toNat_natCast, rw_land, sh_land, not_true_eq_false, kc0, kc1, kc2, kc3, kc4, kc5, kc6, kc7, kc8, kc9, kc10, kc11, kc12, kc13, kc14, kc15, kc16, kc17, kc18, kc19, kc20, kc21, kc22, kc23, kc24, kc25, kc26, kc27, kc28, kc29, kc30, kc31, kc32, kc33] at q48) <;> (omega)
          · intro h1 h' hf
            have e118 := hf.1 119 (by omega) (by omega) (by omega) (by omega) (by omega)
            have e120 := hf.1 121 (by omega) (by omega) (by omega) (by omega) (by omega)
            have ih := ih (by omega)
            have es : wdM h a b (q + 1) = if (0 < q ∧ okS (h 117 0) (h 119 0) (q : Int) ∧ costM h q ≤ h 121 0) ∧ wgM h a b q < wgM h a b (wdM h a b q : Nat) then q else wdM h a b q := rfl
            rw [es] at ih
            have hb := wdM_ok hg.1 a b q
            have rc := costM_rg hg.1 (q : Int)
            have rm1 := wgM_rg hg.1 (s := (q : Int)) c1 c2
            have rm2 := wgM_rg hg.1 (s := ((wdM h a b q : Nat) : Int)) c1 c2
            by_cases c4 : okS (h 117 0) (h 119 0) (q : Int)
            · iterate 2 (refine hX _ ?_; conv => whnf)
              refine hX _ ?_; conv => whnf
              try simp (disch := omega) only [bg_w_id, Int.toNat_natCast, rw_land, sh_land, not_true_eq_false, e120]
              refine s_msetMany (d + 4) n h' (by rw [e118]; omega) _ ?_
              rw [e118, show 2 ^ (12 + (h 119 0).toNat) = M from hM.symm]
              conv => whnf
              refine hX _ ?_; conv => whnf
              refine ⟨fun q48 => ?_, fun q48 => ?_⟩
              · exfalso
                (try simp (disch := omega) only [bg_w_id, Int.toNat_natCast, rw_land, sh_land, not_true_eq_false, e120, kc0, kc1, kc2, kc3, kc4, kc5, kc6, kc7, kc8, kc9, kc10, kc11, kc12, kc13, kc14, kc15, kc16, kc17, kc18, kc19, kc20, kc21, kc22, kc23, kc24, kc25, kc26, kc27, kc28, kc29, kc30, kc31, kc32, kc33] at q48) <;> (omega)
              · try simp (disch := omega) only [bg_w_id, Int.toNat_natCast, rw_land, sh_land, not_true_eq_false, e120, kc0, kc1, kc2, kc3, kc4, kc5, kc6, kc7, kc8, kc9, kc10, kc11, kc12, kc13, kc14, kc15, kc16, kc17, kc18, kc19, kc20, kc21, kc22, kc23, kc24, kc25, kc26, kc27, kc28, kc29, kc30, kc31, kc32, kc33] at q48
                iterate 2 (refine hX _ ?_; conv => whnf)
                refine hX _ ?_; conv => whnf
                try simp (disch := omega) only [bg_w_id, Int.toNat_natCast, rw_land, sh_land, not_true_eq_false, e120]
                refine s_ap_t (d + 4) _ _ _ _ (by omega) (frM_S hf c4) ?_
                conv => whnf
                refine hX _ ?_; conv => whnf
                refine ⟨fun q57 => ?_, fun q57 => ?_⟩
                · exfalso
                  (try simp (disch := omega) only [bg_w_id, Int.toNat_natCast, rw_land, sh_land, not_true_eq_false, e120, kc0, kc1, kc2, kc3, kc4, kc5, kc6, kc7, kc8, kc9, kc10, kc11, kc12, kc13, kc14, kc15, kc16, kc17, kc18, kc19, kc20, kc21, kc22, kc23, kc24, kc25, kc26, kc27, kc28, kc29, kc30, kc31, kc32, kc33] at q57) <;> (omega)
                · try simp (disch := omega) only [bg_w_id, Int.toNat_natCast, rw_land, sh_land, not_true_eq_false, e120, kc0, kc1, kc2, kc3, kc4, kc5, kc6, kc7, kc8, kc9, kc10, kc11, kc12, kc13, kc14, kc15, kc16, kc17, kc18, kc19, kc20, kc21, kc22, kc23, kc24, kc25, kc26, kc27, kc28, kc29, kc30, kc31, kc32, kc33] at q57
                  iterate 2 (refine hX _ ?_; conv => whnf)
                  refine hX _ ?_; conv => whnf
                  try simp (disch := omega) only [bg_w_id, Int.toNat_natCast, rw_land, sh_land, not_true_eq_false, e120]
                  refine s_mcostOf (d + 3) _ _ _ _ ?_
                  rw [show sm 12 (fun i => bt (q : Int) i * h' 118 (7 * i + 4)) + sm 3 (fun t => bt (q : Int) (12 + t) * h' 120 (3 * t + 2)) = costM h q from frM_cost hf q]
                  conv => whnf
                  iterate 3 (refine hX _ ?_; conv => whnf)
                  refine hX _ ?_; conv => whnf
                  try (simp (disch := omega) only [bg_w_id, Int.toNat_natCast, rw_land, sh_land, not_true_eq_false, e120]; try conv => whnf)
                  refine ⟨by first | omega | (simp (disch := omega) only [bg_w_id, Int.toNat_natCast, rw_land, sh_land, not_true_eq_false, e120]; omega), ?_⟩
                  refine hX _ ?_; conv => whnf
                  refine ⟨fun q72 => ?_, fun q72 => ?_⟩
                  · try simp (disch := omega) only [bg_w_id, Int.toNat_natCast, rw_land, sh_land, not_true_eq_false, e120, kc0, kc1, kc2, kc3, kc4, kc5, kc6, kc7, kc8, kc9, kc10, kc11, kc12, kc13, kc14, kc15, kc16, kc17, kc18, kc19, kc20, kc21, kc22, kc23, kc24, kc25, kc26, kc27, kc28, kc29, kc30, kc31, kc32, kc33] at q72
                    iterate 2 (refine hX _ ?_; conv => whnf)
                    first
                    | (rw [if_neg (by omega)] at ih; exact ih _ hf)
                    | (rw [if_neg (by omega)] at ih; exact ih _ hf3)
                    | (rw [if_pos ⟨⟨by omega, c4, by omega⟩, by omega⟩] at ih; exact ih _ hf3)
                  · try simp (disch := omega) only [bg_w_id, Int.toNat_natCast, rw_land, sh_land, not_true_eq_false, e120, kc0, kc1, kc2, kc3, kc4, kc5, kc6, kc7, kc8, kc9, kc10, kc11, kc12, kc13, kc14, kc15, kc16, kc17, kc18, kc19, kc20, kc21, kc22, kc23, kc24, kc25, kc26, kc27, kc28, kc29, kc30, kc31, kc32, kc33] at q72
                    iterate 4 (refine hX _ ?_; conv => whnf)
                    refine hX _ ?_; conv => whnf
                    try simp (disch := omega) only [bg_w_id, Int.toNat_natCast, rw_land, sh_land, not_true_eq_false, e120]
                    refine s_mweigh d n _ _ _ (by omega) h' (wfM_fr hg hf) (frM_S hf c4) _ (fun h2 hf2 hg2 => ?_)
                    rw [frM_wg hf]
                    have hf2 := frM_trans hf hf2
                    conv => whnf
                    iterate 4 (refine hX _ ?_; conv => whnf)
                    refine hX _ ?_; conv => whnf
                    try simp (disch := omega) only [bg_w_id, Int.toNat_natCast, rw_land, sh_land, not_true_eq_false, e120]
                    refine s_mweigh d n _ _ _ (by omega) h2 hg2 (frM_S hf2 hb.1) _ (fun h3 hf3 _ => ?_)
                    rw [frM_wg hf2]
                    have hf3 := frM_trans hf2 hf3
                    conv => whnf
                    refine hX _ ?_; conv => whnf
                    refine ⟨fun q91 => ?_, fun q91 => ?_⟩
                    · try simp (disch := omega) only [bg_w_id, Int.toNat_natCast, rw_land, sh_land, not_true_eq_false, e120, kc0, kc1, kc2, kc3, kc4, kc5, kc6, kc7, kc8, kc9, kc10, kc11, kc12, kc13, kc14, kc15, kc16, kc17, kc18, kc19, kc20, kc21, kc22, kc23, kc24, kc25, kc26, kc27, kc28, kc29, kc30, kc31, kc32, kc33] at q91
                      iterate 2 (refine hX _ ?_; conv => whnf)
                      first
                      | (rw [if_neg (by omega)] at ih; exact ih _ hf)
                      | (rw [if_neg (by omega)] at ih; exact ih _ hf3)
                      | (rw [if_pos ⟨⟨by omega, c4, by omega⟩, by omega⟩] at ih; exact ih _ hf3)
                    · try simp (disch := omega) only [bg_w_id, Int.toNat_natCast, rw_land, sh_land, not_true_eq_false, e120, kc0, kc1, kc2, kc3, kc4, kc5, kc6, kc7, kc8, kc9, kc10, kc11, kc12, kc13, kc14, kc15, kc16, kc17, kc18, kc19, kc20, kc21, kc22, kc23, kc24, kc25, kc26, kc27, kc28, kc29, kc30, kc31, kc32, kc33] at q91
                      iterate 4 (refine hX _ ?_; conv => whnf)
                      first
                      | (rw [if_neg (by omega)] at ih; exact ih _ hf)
                      | (rw [if_neg (by omega)] at ih; exact ih _ hf3)
                      | (rw [if_pos ⟨⟨by omega, c4, by omega⟩, by omega⟩] at ih; exact ih _ hf3)
            · iterate 2 (refine hX _ ?_; conv => whnf)
              refine hX _ ?_; conv => whnf
              try simp (disch := omega) only [bg_w_id, Int.toNat_natCast, rw_land, sh_land, not_true_eq_false]
              refine s_msetMany (d + 4) n h' (by rw [e118]; omega) _ ?_
              rw [e118, show 2 ^ (12 + (h 119 0).toNat) = M from hM.symm]
              conv => whnf
              refine hX _ ?_; conv => whnf
              refine ⟨fun q48 => ?_, fun q48 => ?_⟩
              · exfalso
                (try simp (disch := omega) only [bg_w_id, Int.toNat_natCast, rw_land, sh_land, not_true_eq_false, kc0, kc1, kc2, kc3, kc4, kc5, kc6, kc7, kc8, kc9, kc10, kc11, kc12, kc13, kc14, kc15, kc16, kc17, kc18, kc19, kc20, kc21, kc22, kc23, kc24, kc25, kc26, kc27, kc28, kc29, kc30, kc31, kc32, kc33] at q48) <;> (omega)
              · try simp (disch := omega) only [bg_w_id, Int.toNat_natCast, rw_land, sh_land, not_true_eq_false, kc0, kc1, kc2, kc3, kc4, kc5, kc6, kc7, kc8, kc9, kc10, kc11, kc12, kc13, kc14, kc15, kc16, kc17, kc18, kc19, kc20, kc21, kc22, kc23, kc24, kc25, kc26, kc27, kc28, kc29, kc30, kc31, kc32, kc33] at q48
                iterate 2 (refine hX _ ?_; conv => whnf)
                refine hX _ ?_; conv => whnf
                try simp (disch := omega) only [bg_w_id, Int.toNat_natCast, rw_land, sh_land, not_true_eq_false]
                refine s_ap_f (d + 4) _ _ _ _ (by omega) (fun e => c4 (by rw [hf.1 117 (by omega) (by omega) (by omega) (by omega) (by omega), e118] at e; exact e)) ?_
                conv => whnf
                refine hX _ ?_; conv => whnf
                refine ⟨fun q57 => ?_, fun q57 => ?_⟩
                · try simp (disch := omega) only [bg_w_id, Int.toNat_natCast, rw_land, sh_land, not_true_eq_false, kc0, kc1, kc2, kc3, kc4, kc5, kc6, kc7, kc8, kc9, kc10, kc11, kc12, kc13, kc14, kc15, kc16, kc17, kc18, kc19, kc20, kc21, kc22, kc23, kc24, kc25, kc26, kc27, kc28, kc29, kc30, kc31, kc32, kc33] at q57
                  iterate 2 (refine hX _ ?_; conv => whnf)
                  rw [if_neg (fun e => c4 e.1.2.1)] at ih
                  exact ih _ hf
                · exfalso
                  (try simp (disch := omega) only [bg_w_id, Int.toNat_natCast, rw_land, sh_land, not_true_eq_false, kc0, kc1, kc2, kc3, kc4, kc5, kc6, kc7, kc8, kc9, kc10, kc11, kc12, kc13, kc14, kc15, kc16, kc17, kc18, kc19, kc20, kc21, kc22, kc23, kc24, kc25, kc26, kc27, kc28, kc29, kc30, kc31, kc32, kc33] at q57) <;> (omega)
        iterate 4 (refine hX _ ?_; conv => whnf)
        try simp (disch := omega) only [bg_w_id, Int.toNat_natCast, rw_land, sh_land, not_true_eq_false]
        refine hX _ ?_; conv => whnf
        try simp (disch := omega) only [bg_w_id, Int.toNat_natCast, rw_land, sh_land, not_true_eq_false]
        refine s_in_t (d + 4) _ _ _ _ _ (by omega) (by omega) (by omega) c1 ?_
        conv => whnf
        refine hX _ ?_; conv => whnf
        refine ⟨fun q9 => ?_, fun q9 => ?_⟩
        · exfalso
          (try simp (disch := omega) only [bg_w_id, Int.toNat_natCast, rw_land, sh_land, not_true_eq_false, kc0, kc1, kc2, kc3, kc4, kc5, kc6, kc7, kc8, kc9, kc10, kc11, kc12, kc13, kc14, kc15, kc16, kc17, kc18, kc19, kc20, kc21, kc22, kc23, kc24, kc25, kc26, kc27, kc28, kc29, kc30, kc31, kc32, kc33] at q9) <;> (omega)
        · try simp (disch := omega) only [bg_w_id, Int.toNat_natCast, rw_land, sh_land, not_true_eq_false, kc0, kc1, kc2, kc3, kc4, kc5, kc6, kc7, kc8, kc9, kc10, kc11, kc12, kc13, kc14, kc15, kc16, kc17, kc18, kc19, kc20, kc21, kc22, kc23, kc24, kc25, kc26, kc27, kc28, kc29, kc30, kc31, kc32, kc33] at q9
          iterate 4 (refine hX _ ?_; conv => whnf)
          try simp (disch := omega) only [bg_w_id, Int.toNat_natCast, rw_land, sh_land, not_true_eq_false]
          refine hX _ ?_; conv => whnf
          try simp (disch := omega) only [bg_w_id, Int.toNat_natCast, rw_land, sh_land, not_true_eq_false]
          refine s_in_t (d + 4) _ _ _ _ _ (by omega) (by omega) (by omega) c2 ?_
          conv => whnf
          refine hX _ ?_; conv => whnf
          refine ⟨fun q21 => ?_, fun q21 => ?_⟩
          · exfalso
            (try simp (disch := omega) only [bg_w_id, Int.toNat_natCast, rw_land, sh_land, not_true_eq_false, kc0, kc1, kc2, kc3, kc4, kc5, kc6, kc7, kc8, kc9, kc10, kc11, kc12, kc13, kc14, kc15, kc16, kc17, kc18, kc19, kc20, kc21, kc22, kc23, kc24, kc25, kc26, kc27, kc28, kc29, kc30, kc31, kc32, kc33] at q21) <;> (omega)
          · try simp (disch := omega) only [bg_w_id, Int.toNat_natCast, rw_land, sh_land, not_true_eq_false, kc0, kc1, kc2, kc3, kc4, kc5, kc6, kc7, kc8, kc9, kc10, kc11, kc12, kc13, kc14, kc15, kc16, kc17, kc18, kc19, kc20, kc21, kc22, kc23, kc24, kc25, kc26, kc27, kc28, kc29, kc30, kc31, kc32, kc33] at q21
            iterate 4 (refine hX _ ?_; conv => whnf)
            try simp (disch := omega) only [bg_w_id, Int.toNat_natCast, rw_land, sh_land, not_true_eq_false]
            refine hX _ ?_; conv => whnf
            try simp (disch := omega) only [bg_w_id, Int.toNat_natCast, rw_land, sh_land, not_true_eq_false]
            refine s_in_t (d + 4) _ _ _ _ _ (by omega) (by omega) (by omega) c3 ?_
            conv => whnf
            refine hX _ ?_; conv => whnf
            refine ⟨fun q31 => ?_, fun q31 => ?_⟩
            · try simp (disch := omega) only [bg_w_id, Int.toNat_natCast, rw_land, sh_land, not_true_eq_false, kc0, kc1, kc2, kc3, kc4, kc5, kc6, kc7, kc8, kc9, kc10, kc11, kc12, kc13, kc14, kc15, kc16, kc17, kc18, kc19, kc20, kc21, kc22, kc23, kc24, kc25, kc26, kc27, kc28, kc29, kc30, kc31, kc32, kc33] at q31
              iterate 4 (refine hX _ ?_; conv => whnf)
              exact l1 1 (by omega) (by omega) h (frM_refl hg.2.2)
            · exfalso
              (try simp (disch := omega) only [bg_w_id, Int.toNat_natCast, rw_land, sh_land, not_true_eq_false, kc0, kc1, kc2, kc3, kc4, kc5, kc6, kc7, kc8, kc9, kc10, kc11, kc12, kc13, kc14, kc15, kc16, kc17, kc18, kc19, kc20, kc21, kc22, kc23, kc24, kc25, kc26, kc27, kc28, kc29, kc30, kc31, kc32, kc33] at q31) <;> (omega)
      · iterate 4 (refine hX _ ?_; conv => whnf)
        try simp (disch := omega) only [bg_w_id, Int.toNat_natCast, rw_land, sh_land, not_true_eq_false]
        refine hX _ ?_; conv => whnf
        try simp (disch := omega) only [bg_w_id, Int.toNat_natCast, rw_land, sh_land, not_true_eq_false]
        refine s_in_t (d + 4) _ _ _ _ _ (by omega) (by omega) (by omega) c1 ?_
        conv => whnf
        refine hX _ ?_; conv => whnf
        refine ⟨fun q9 => ?_, fun q9 => ?_⟩
        · exfalso
          (try simp (disch := omega) only [bg_w_id, Int.toNat_natCast, rw_land, sh_land, not_true_eq_false, kc0, kc1, kc2, kc3, kc4, kc5, kc6, kc7, kc8, kc9, kc10, kc11, kc12, kc13, kc14, kc15, kc16, kc17, kc18, kc19, kc20, kc21, kc22, kc23, kc24, kc25, kc26, kc27, kc28, kc29, kc30, kc31, kc32, kc33] at q9) <;> (omega)
        · try simp (disch := omega) only [bg_w_id, Int.toNat_natCast, rw_land, sh_land, not_true_eq_false, kc0, kc1, kc2, kc3, kc4, kc5, kc6, kc7, kc8, kc9, kc10, kc11, kc12, kc13, kc14, kc15, kc16, kc17, kc18, kc19, kc20, kc21, kc22, kc23, kc24, kc25, kc26, kc27, kc28, kc29, kc30, kc31, kc32, kc33] at q9
          iterate 4 (refine hX _ ?_; conv => whnf)
          try simp (disch := omega) only [bg_w_id, Int.toNat_natCast, rw_land, sh_land, not_true_eq_false]
          refine hX _ ?_; conv => whnf
          try simp (disch := omega) only [bg_w_id, Int.toNat_natCast, rw_land, sh_land, not_true_eq_false]
          refine s_in_t (d + 4) _ _ _ _ _ (by omega) (by omega) (by omega) c2 ?_
          conv => whnf
          refine hX _ ?_; conv => whnf
          refine ⟨fun q21 => ?_, fun q21 => ?_⟩
          · exfalso
            (try simp (disch := omega) only [bg_w_id, Int.toNat_natCast, rw_land, sh_land, not_true_eq_false, kc0, kc1, kc2, kc3, kc4, kc5, kc6, kc7, kc8, kc9, kc10, kc11, kc12, kc13, kc14, kc15, kc16, kc17, kc18, kc19, kc20, kc21, kc22, kc23, kc24, kc25, kc26, kc27, kc28, kc29, kc30, kc31, kc32, kc33] at q21) <;> (omega)
          · try simp (disch := omega) only [bg_w_id, Int.toNat_natCast, rw_land, sh_land, not_true_eq_false, kc0, kc1, kc2, kc3, kc4, kc5, kc6, kc7, kc8, kc9, kc10, kc11, kc12, kc13, kc14, kc15, kc16, kc17, kc18, kc19, kc20, kc21, kc22, kc23, kc24, kc25, kc26, kc27, kc28, kc29, kc30, kc31, kc32, kc33] at q21
            iterate 4 (refine hX _ ?_; conv => whnf)
            try simp (disch := omega) only [bg_w_id, Int.toNat_natCast, rw_land, sh_land, not_true_eq_false]
            refine hX _ ?_; conv => whnf
            try simp (disch := omega) only [bg_w_id, Int.toNat_natCast, rw_land, sh_land, not_true_eq_false]
            refine s_in_f (d + 4) _ _ _ _ _ (by omega) (by omega) (by omega) c3 ?_
            conv => whnf
            refine hX _ ?_; conv => whnf
            refine ⟨fun q31 => ?_, fun q31 => ?_⟩
            · exfalso
              (try simp (disch := omega) only [bg_w_id, Int.toNat_natCast, rw_land, sh_land, not_true_eq_false, kc0, kc1, kc2, kc3, kc4, kc5, kc6, kc7, kc8, kc9, kc10, kc11, kc12, kc13, kc14, kc15, kc16, kc17, kc18, kc19, kc20, kc21, kc22, kc23, kc24, kc25, kc26, kc27, kc28, kc29, kc30, kc31, kc32, kc33] at q31) <;> (omega)
            · try simp (disch := omega) only [bg_w_id, Int.toNat_natCast, rw_land, sh_land, not_true_eq_false, kc0, kc1, kc2, kc3, kc4, kc5, kc6, kc7, kc8, kc9, kc10, kc11, kc12, kc13, kc14, kc15, kc16, kc17, kc18, kc19, kc20, kc21, kc22, kc23, kc24, kc25, kc26, kc27, kc28, kc29, kc30, kc31, kc32, kc33] at q31
              refine hX _ ?_; conv => whnf
              refine hX _ ?_; conv => whnf
              exact hR0 (fun e => c3 e.2.2)
    · iterate 4 (refine hX _ ?_; conv => whnf)
      try simp (disch := omega) only [bg_w_id, Int.toNat_natCast, rw_land, sh_land, not_true_eq_false]
      refine hX _ ?_; conv => whnf
      try simp (disch := omega) only [bg_w_id, Int.toNat_natCast, rw_land, sh_land, not_true_eq_false]
      refine s_in_t (d + 4) _ _ _ _ _ (by omega) (by omega) (by omega) c1 ?_
      conv => whnf
      refine hX _ ?_; conv => whnf
      refine ⟨fun q9 => ?_, fun q9 => ?_⟩
      · exfalso
        (try simp (disch := omega) only [bg_w_id, Int.toNat_natCast, rw_land, sh_land, not_true_eq_false, kc0, kc1, kc2, kc3, kc4, kc5, kc6, kc7, kc8, kc9, kc10, kc11, kc12, kc13, kc14, kc15, kc16, kc17, kc18, kc19, kc20, kc21, kc22, kc23, kc24, kc25, kc26, kc27, kc28, kc29, kc30, kc31, kc32, kc33] at q9) <;> (omega)
      · try simp (disch := omega) only [bg_w_id, Int.toNat_natCast, rw_land, sh_land, not_true_eq_false, kc0, kc1, kc2, kc3, kc4, kc5, kc6, kc7, kc8, kc9, kc10, kc11, kc12, kc13, kc14, kc15, kc16, kc17, kc18, kc19, kc20, kc21, kc22, kc23, kc24, kc25, kc26, kc27, kc28, kc29, kc30, kc31, kc32, kc33] at q9
        iterate 4 (refine hX _ ?_; conv => whnf)
        try simp (disch := omega) only [bg_w_id, Int.toNat_natCast, rw_land, sh_land, not_true_eq_false]
        refine hX _ ?_; conv => whnf
        try simp (disch := omega) only [bg_w_id, Int.toNat_natCast, rw_land, sh_land, not_true_eq_false]
        refine s_in_f (d + 4) _ _ _ _ _ (by omega) (by omega) (by omega) c2 ?_
        conv => whnf
        refine hX _ ?_; conv => whnf
        refine ⟨fun q21 => ?_, fun q21 => ?_⟩
        · try simp (disch := omega) only [bg_w_id, Int.toNat_natCast, rw_land, sh_land, not_true_eq_false, kc0, kc1, kc2, kc3, kc4, kc5, kc6, kc7, kc8, kc9, kc10, kc11, kc12, kc13, kc14, kc15, kc16, kc17, kc18, kc19, kc20, kc21, kc22, kc23, kc24, kc25, kc26, kc27, kc28, kc29, kc30, kc31, kc32, kc33] at q21
          refine hX _ ?_; conv => whnf
          refine hX _ ?_; conv => whnf
          exact hR0 (fun e => c2 e.2.1)
        · exfalso
          (try simp (disch := omega) only [bg_w_id, Int.toNat_natCast, rw_land, sh_land, not_true_eq_false, kc0, kc1, kc2, kc3, kc4, kc5, kc6, kc7, kc8, kc9, kc10, kc11, kc12, kc13, kc14, kc15, kc16, kc17, kc18, kc19, kc20, kc21, kc22, kc23, kc24, kc25, kc26, kc27, kc28, kc29, kc30, kc31, kc32, kc33] at q21) <;> (omega)
  · iterate 4 (refine hX _ ?_; conv => whnf)
    try simp (disch := omega) only [bg_w_id, Int.toNat_natCast, rw_land, sh_land, not_true_eq_false]
    refine hX _ ?_; conv => whnf
    try simp (disch := omega) only [bg_w_id, Int.toNat_natCast, rw_land, sh_land, not_true_eq_false]
    refine s_in_f (d + 4) _ _ _ _ _ (by omega) (by omega) (by omega) c1 ?_
    conv => whnf
    refine hX _ ?_; conv => whnf
    refine ⟨fun q9 => ?_, fun q9 => ?_⟩
    · try simp (disch := omega) only [bg_w_id, Int.toNat_natCast, rw_land, sh_land, not_true_eq_false, kc0, kc1, kc2, kc3, kc4, kc5, kc6, kc7, kc8, kc9, kc10, kc11, kc12, kc13, kc14, kc15, kc16, kc17, kc18, kc19, kc20, kc21, kc22, kc23, kc24, kc25, kc26, kc27, kc28, kc29, kc30, kc31, kc32, kc33] at q9
      refine hX _ ?_; conv => whnf
      refine hX _ ?_; conv => whnf
      exact hR0 (fun e => c1 e.1)
    · exfalso
      (try simp (disch := omega) only [bg_w_id, Int.toNat_natCast, rw_land, sh_land, not_true_eq_false, kc0, kc1, kc2, kc3, kc4, kc5, kc6, kc7, kc8, kc9, kc10, kc11, kc12, kc13, kc14, kc15, kc16, kc17, kc18, kc19, kc20, kc21, kc22, kc23, kc24, kc25, kc26, kc27, kc28, kc29, kc30, kc31, kc32, kc33] at q9) <;> (omega)
