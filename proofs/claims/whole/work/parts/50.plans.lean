/-! the plans: the best for each coin, and all made ready -/
def fullI (h h' : bg_G) (c : Nat) : Prop := ∃ s, okN h s ∧ costM h s ≤ c ∧ h' 51 c = s ∧ h' 52 c = mostM h s ∧ ∀ s', okN h s' → costM h s' ≤ c → mostM h s < mostM h s' ∨ (mostM h s = mostM h s' ∧ s ≤ s')
def exI (h h' : bg_G) (c : Nat) : Prop := (h' 51 c = -1 ∧ h' 52 c = 2147483647 ∧ ∀ s, okN h s → costM h s ≠ c) ∨ (∃ s, okN h s ∧ costM h s = c ∧ h' 51 c = s ∧ h' 52 c = mostM h s ∧ ∀ s', okN h s' → costM h s' = c → mostM h s < mostM h s' ∨ (mostM h s = mostM h s' ∧ s ≤ s'))
theorem okN_0 {h : bg_G} (ho : okM h) : okN h 0 := ⟨okS_0 ho.1.1 ho.1.2.1, by omega⟩
theorem costM_0 (h : bg_G) : costM h ((0 : Nat) : Int) = 0 := by
  unfold costM
  rw [sm_congr (n := 12) (g := fun _ => 0) (fun i hi => by rw [bt_tb (by omega) (by omega)]; simp), sm_zero, sm_congr (n := 3) (g := fun _ => 0) (fun i hi => by rw [show (12 + (i : Int)) = ((12 + i : Nat) : Int) by omega, bt_tb (by omega) (by omega)]; simp), sm_zero]
  rfl
theorem full_0 {h h' : bg_G} (ho : okM h) (hx : exI h h' 0) : fullI h h' 0 := by
  rcases hx with ⟨x1, x2, x3⟩ | ⟨s, x1, x2, x3, x4, x5⟩
  · exact absurd (costM_0 h) (x3 0 (okN_0 ho))
  · refine ⟨s, x1, by omega, x3, x4, fun s' hs' hc' => x5 s' hs' ?_⟩
    have := costM_rg ho (s' : Int)
    omega
theorem full_fr {h h1 h2 : bg_G} {c : Nat} (e1 : h2 51 c = h1 51 c) (e2 : h2 52 c = h1 52 c) (hx : fullI h h1 c) : fullI h h2 c := by
  unfold fullI
  rw [e1, e2]
  exact hx
theorem ex_fr {h h1 h2 : bg_G} {c : Nat} (e1 : h2 51 c = h1 51 c) (e2 : h2 52 c = h1 52 c) (hx : exI h h1 c) : exI h h2 c := by
  unfold exI
  rw [e1, e2]
  exact hx
theorem s_spreadBest (d n : Nat) (h0 : bg_G) (ho : okM h0) (h : bg_G) (hx : ∀ c : Nat, c ≤ 300 → exI h0 h c) (Rt : bg_R) (hR : ∀ h' : bg_G, (∀ k, k ≠ 51 → k ≠ 52 → h' k = h k) → (∀ c : Nat, c ≤ 300 → fullI h0 h' c) → Rt none (bg_SH n, h')) : bg_Ca bg_MS (d + 1) 56 [vR 46] (bg_SH n, h) Rt := by
  refine bg_ca (cd := cd_X4_spreadBest) rfl rfl ?_
  intro X hX
  have l1 : ∀ c : Nat, c ≤ 301 → 1 ≤ c → ∀ (h' : bg_G) (j2 j3 : Option bg_V), (∀ k, k ≠ 51 → k ≠ 52 → h' k = h k) → (∀ c' : Nat, c' < c → fullI h0 h' c') → (∀ c' : Nat, c ≤ c' → c' ≤ 300 → exI h0 h' c') → X (2, [oR 46, oI (c : Int), j2, j3], [], (bg_SH n, h'), (0, 0)) := by
    refine lp_up 301 _ ?_ (fun c hc ih => ?_)
    · intro _ h' j2 j3 f1 f2 f3
      iterate 2 (refine hX _ ?_; conv => whnf)
      refine hX _ ?_; conv => whnf
      refine ⟨fun q6 => ?_, fun q6 => ?_⟩
      · try simp (disch := omega) only [bg_w_id, Int.toNat_natCast, rw_land, sh_land, not_true_eq_false, kc0, kc1, kc2, kc3, kc4, kc5, kc6, kc7, kc8, kc9, kc10, kc11, kc12, kc13, kc14, kc15, kc16, kc17, kc18, kc19, kc20, kc21, kc22, kc23, kc24, kc25, kc26, kc27, kc28, kc29, kc30, kc31, kc32, kc33] at q6
        refine hX _ ?_; conv => whnf
        exact hR h' f1 (fun c hc => f2 c (by omega))
      · exfalso
        (try simp (disch := omega) only [bg_w_id, Int.toNat_natCast, rw_land, sh_land, not_true_eq_false, kc0, kc1, kc2, kc3, kc4, kc5, kc6, kc7, kc8, kc9, kc10, kc11, kc12, kc13, kc14, kc15, kc16, kc17, kc18, kc19, kc20, kc21, kc22, kc23, kc24, kc25, kc26, kc27, kc28, kc29, kc30, kc31, kc32, kc33] at q6) <;> (omega)
    · intro hc1 h' j2 j3 f1 f2 f3
      obtain ⟨s1, y1, y2, y3, y4, y5⟩ := f2 (c - 1) (by omega)
      rw [show ((c - 1 : Nat) : Int) = (c : Int) - 1 by omega] at y2 y3 y4 y5
      have r1 := mostM_rg ho (s1 : Int)
      have r1' := y1.2
      -- taken over
      have over : ∀ j2 j3 : Option bg_V, (∀ s', okN h0 s' → costM h0 s' = c → mostM h0 s1 < mostM h0 s' ∨ (mostM h0 s1 = mostM h0 s' ∧ s1 ≤ s')) → X (2, [oR 46, oI ((c : Int) + 1), j2, j3], [], (bg_SH n, bg_up (bg_up h' 52 c (mostM h0 s1)) 51 c s1), (0, 0)) := by
        intro j2 j3 hs
        refine ih (by omega) _ _ _ (fun k a b => by rw [bg_up_ne a, bg_up_ne b]; exact f1 k a b) (fun c' hc' => ?_) (fun c' a b => ex_fr (by rw [bg_up_nj (by omega), bg_up_ne (by omega)]) (by rw [bg_up_ne (by omega), bg_up_nj (by omega)]) (f3 c' (by omega) b))
        by_cases e : c' = c
        · subst e
          refine ⟨s1, y1, by omega, bg_up_self _ _ _ _, by rw [bg_up_ne (by omega), bg_up_self], fun s' p1 p2 => ?_⟩
          by_cases e2 : costM h0 s' = c'
          · exact hs s' p1 e2
          · exact y5 s' p1 (by omega)
        · exact full_fr (by rw [bg_up_nj (by omega), bg_up_ne (by omega)]) (by rw [bg_up_ne (by omega), bg_up_nj (by omega)]) (f2 c' (by omega))
      -- kept
      have kept : ∀ j2 j3 : Option bg_V, fullI h0 h' c → X (2, [oR 46, oI ((c : Int) + 1), j2, j3], [], (bg_SH n, h'), (0, 0)) := by
        intro j2 j3 hs
        refine ih (by omega) _ _ _ f1 (fun c' hc' => ?_) (fun c' a b => f3 c' (by omega) b)
        by_cases e : c' = c
        · subst e; exact hs
        · exact f2 c' (by omega)
      rcases f3 c (Nat.le_refl _) (by omega) with ⟨x1, x2, x3⟩ | ⟨s2, x1, x2, x3, x4, x5⟩
      · iterate 2 (refine hX _ ?_; conv => whnf)
        refine hX _ ?_; conv => whnf
        refine ⟨fun q6 => ?_, fun q6 => ?_⟩
        · exfalso
          (try simp (disch := omega) only [bg_w_id, Int.toNat_natCast, rw_land, sh_land, not_true_eq_false, y3, y4, x1, x2, bg_up_ne, kc0, kc1, kc2, kc3, kc4, kc5, kc6, kc7, kc8, kc9, kc10, kc11, kc12, kc13, kc14, kc15, kc16, kc17, kc18, kc19, kc20, kc21, kc22, kc23, kc24, kc25, kc26, kc27, kc28, kc29, kc30, kc31, kc32, kc33] at q6) <;> (omega)
        · try simp (disch := omega) only [bg_w_id, Int.toNat_natCast, rw_land, sh_land, not_true_eq_false, y3, y4, x1, x2, bg_up_ne, kc0, kc1, kc2, kc3, kc4, kc5, kc6, kc7, kc8, kc9, kc10, kc11, kc12, kc13, kc14, kc15, kc16, kc17, kc18, kc19, kc20, kc21, kc22, kc23, kc24, kc25, kc26, kc27, kc28, kc29, kc30, kc31, kc32, kc33] at q6
          iterate 7 (refine hX _ ?_; conv => whnf)
          refine hX _ ?_; conv => whnf
          try (simp (disch := omega) only [bg_w_id, Int.toNat_natCast, rw_land, sh_land, not_true_eq_false, y3, y4, x1, x2, bg_up_ne]; try conv => whnf)
          refine ⟨by first | omega | (simp (disch := omega) only [bg_w_id, Int.toNat_natCast, rw_land, sh_land, not_true_eq_false, y3, y4, x1, x2, bg_up_ne]; omega), ?_⟩
          iterate 3 (refine hX _ ?_; conv => whnf)
          refine hX _ ?_; conv => whnf
          try (simp (disch := omega) only [bg_w_id, Int.toNat_natCast, rw_land, sh_land, not_true_eq_false, y3, y4, x1, x2, bg_up_ne]; try conv => whnf)
          refine ⟨by first | omega | (simp (disch := omega) only [bg_w_id, Int.toNat_natCast, rw_land, sh_land, not_true_eq_false, y3, y4, x1, x2, bg_up_ne]; omega), ?_⟩
          refine hX _ ?_; conv => whnf
          refine ⟨fun q25 => ?_, fun q25 => ?_⟩
          · try simp (disch := omega) only [bg_w_id, Int.toNat_natCast, rw_land, sh_land, not_true_eq_false, y3, y4, x1, x2, bg_up_ne, kc0, kc1, kc2, kc3, kc4, kc5, kc6, kc7, kc8, kc9, kc10, kc11, kc12, kc13, kc14, kc15, kc16, kc17, kc18, kc19, kc20, kc21, kc22, kc23, kc24, kc25, kc26, kc27, kc28, kc29, kc30, kc31, kc32, kc33] at q25
            iterate 5 (refine hX _ ?_; conv => whnf)
            refine hX _ ?_; conv => whnf
            try (simp (disch := omega) only [bg_w_id, Int.toNat_natCast, rw_land, sh_land, not_true_eq_false, y3, y4, x1, x2, bg_up_ne]; try conv => whnf)
            refine ⟨by first | omega | (simp (disch := omega) only [bg_w_id, Int.toNat_natCast, rw_land, sh_land, not_true_eq_false, y3, y4, x1, x2, bg_up_ne]; omega), ?_⟩
            iterate 3 (refine hX _ ?_; conv => whnf)
            refine hX _ ?_; conv => whnf
            try (simp (disch := omega) only [bg_w_id, Int.toNat_natCast, rw_land, sh_land, not_true_eq_false, y3, y4, x1, x2, bg_up_ne]; try conv => whnf)
            refine ⟨by first | omega | (simp (disch := omega) only [bg_w_id, Int.toNat_natCast, rw_land, sh_land, not_true_eq_false, y3, y4, x1, x2, bg_up_ne]; omega), ?_⟩
            refine hX _ ?_; conv => whnf
            refine ⟨fun q46 => ?_, fun q46 => ?_⟩
            · try simp (disch := omega) only [bg_w_id, Int.toNat_natCast, rw_land, sh_land, not_true_eq_false, y3, y4, x1, x2, bg_up_ne, kc0, kc1, kc2, kc3, kc4, kc5, kc6, kc7, kc8, kc9, kc10, kc11, kc12, kc13, kc14, kc15, kc16, kc17, kc18, kc19, kc20, kc21, kc22, kc23, kc24, kc25, kc26, kc27, kc28, kc29, kc30, kc31, kc32, kc33] at q46
              iterate 6 (refine hX _ ?_; conv => whnf)
              refine hX _ ?_; conv => whnf
              try (simp (disch := omega) only [bg_w_id, Int.toNat_natCast, rw_land, sh_land, not_true_eq_false, y3, y4, x1, x2, bg_up_ne]; try conv => whnf)
              refine ⟨by first | omega | (simp (disch := omega) only [bg_w_id, Int.toNat_natCast, rw_land, sh_land, not_true_eq_false, y3, y4, x1, x2, bg_up_ne]; omega), ?_⟩
              refine hX _ ?_; conv => whnf
              try (simp (disch := omega) only [bg_w_id, Int.toNat_natCast, rw_land, sh_land, not_true_eq_false, y3, y4, x1, x2, bg_up_ne]; try conv => whnf)
              refine ⟨by first | omega | (simp (disch := omega) only [bg_w_id, Int.toNat_natCast, rw_land, sh_land, not_true_eq_false, y3, y4, x1, x2, bg_up_ne]; omega), ?_⟩
              iterate 6 (refine hX _ ?_; conv => whnf)
              refine hX _ ?_; conv => whnf
              try (simp (disch := omega) only [bg_w_id, Int.toNat_natCast, rw_land, sh_land, not_true_eq_false, y3, y4, x1, x2, bg_up_ne]; try conv => whnf)
              refine ⟨by first | omega | (simp (disch := omega) only [bg_w_id, Int.toNat_natCast, rw_land, sh_land, not_true_eq_false, y3, y4, x1, x2, bg_up_ne]; omega), ?_⟩
              refine hX _ ?_; conv => whnf
              try (simp (disch := omega) only [bg_w_id, Int.toNat_natCast, rw_land, sh_land, not_true_eq_false, y3, y4, x1, x2, bg_up_ne]; try conv => whnf)
              refine ⟨by first | omega | (simp (disch := omega) only [bg_w_id, Int.toNat_natCast, rw_land, sh_land, not_true_eq_false, y3, y4, x1, x2, bg_up_ne]; omega), ?_⟩
              iterate 2 (refine hX _ ?_; conv => whnf)
              exact over _ _ (fun s' p1 p2 => absurd p2 (x3 s' p1))
            · exfalso
              (try simp (disch := omega) only [bg_w_id, Int.toNat_natCast, rw_land, sh_land, not_true_eq_false, y3, y4, x1, x2, bg_up_ne, kc0, kc1, kc2, kc3, kc4, kc5, kc6, kc7, kc8, kc9, kc10, kc11, kc12, kc13, kc14, kc15, kc16, kc17, kc18, kc19, kc20, kc21, kc22, kc23, kc24, kc25, kc26, kc27, kc28, kc29, kc30, kc31, kc32, kc33] at q46) <;> (omega)
          · exfalso
            (try simp (disch := omega) only [bg_w_id, Int.toNat_natCast, rw_land, sh_land, not_true_eq_false, y3, y4, x1, x2, bg_up_ne, kc0, kc1, kc2, kc3, kc4, kc5, kc6, kc7, kc8, kc9, kc10, kc11, kc12, kc13, kc14, kc15, kc16, kc17, kc18, kc19, kc20, kc21, kc22, kc23, kc24, kc25, kc26, kc27, kc28, kc29, kc30, kc31, kc32, kc33] at q25) <;> (omega)
      · have r2 := mostM_rg ho (s2 : Int)
        have r2' := x1.2
        have kf : (mostM h0 s2 < mostM h0 s1 ∨ (mostM h0 s2 = mostM h0 s1 ∧ s2 ≤ s1)) → fullI h0 h' c := fun hlt => ⟨s2, x1, by omega, x3, x4, fun s' p1 p2 => by
          by_cases e2 : costM h0 s' = c
          · exact x5 s' p1 e2
          · have := y5 s' p1 (by omega)
            omega⟩
        have of : (mostM h0 s1 < mostM h0 s2 ∨ (mostM h0 s1 = mostM h0 s2 ∧ s1 ≤ s2)) → ∀ s', okN h0 s' → costM h0 s' = c → mostM h0 s1 < mostM h0 s' ∨ (mostM h0 s1 = mostM h0 s' ∧ s1 ≤ s') := fun hlt s' p1 p2 => by
          have := x5 s' p1 p2
          omega
        iterate 2 (refine hX _ ?_; conv => whnf)
        refine hX _ ?_; conv => whnf
        refine ⟨fun q6 => ?_, fun q6 => ?_⟩
        · exfalso
          (try simp (disch := omega) only [bg_w_id, Int.toNat_natCast, rw_land, sh_land, not_true_eq_false, y3, y4, x3, x4, bg_up_ne, kc0, kc1, kc2, kc3, kc4, kc5, kc6, kc7, kc8, kc9, kc10, kc11, kc12, kc13, kc14, kc15, kc16, kc17, kc18, kc19, kc20, kc21, kc22, kc23, kc24, kc25, kc26, kc27, kc28, kc29, kc30, kc31, kc32, kc33] at q6) <;> (omega)
        · try simp (disch := omega) only [bg_w_id, Int.toNat_natCast, rw_land, sh_land, not_true_eq_false, y3, y4, x3, x4, bg_up_ne, kc0, kc1, kc2, kc3, kc4, kc5, kc6, kc7, kc8, kc9, kc10, kc11, kc12, kc13, kc14, kc15, kc16, kc17, kc18, kc19, kc20, kc21, kc22, kc23, kc24, kc25, kc26, kc27, kc28, kc29, kc30, kc31, kc32, kc33] at q6
          iterate 7 (refine hX _ ?_; conv => whnf)
          refine hX _ ?_; conv => whnf
          try (simp (disch := omega) only [bg_w_id, Int.toNat_natCast, rw_land, sh_land, not_true_eq_false, y3, y4, x3, x4, bg_up_ne]; try conv => whnf)
          refine ⟨by first | omega | (simp (disch := omega) only [bg_w_id, Int.toNat_natCast, rw_land, sh_land, not_true_eq_false, y3, y4, x3, x4, bg_up_ne]; omega), ?_⟩
          iterate 3 (refine hX _ ?_; conv => whnf)
          refine hX _ ?_; conv => whnf
          try (simp (disch := omega) only [bg_w_id, Int.toNat_natCast, rw_land, sh_land, not_true_eq_false, y3, y4, x3, x4, bg_up_ne]; try conv => whnf)
          refine ⟨by first | omega | (simp (disch := omega) only [bg_w_id, Int.toNat_natCast, rw_land, sh_land, not_true_eq_false, y3, y4, x3, x4, bg_up_ne]; omega), ?_⟩
          refine hX _ ?_; conv => whnf
          refine ⟨fun q25 => ?_, fun q25 => ?_⟩
          · try simp (disch := omega) only [bg_w_id, Int.toNat_natCast, rw_land, sh_land, not_true_eq_false, y3, y4, x3, x4, bg_up_ne, kc0, kc1, kc2, kc3, kc4, kc5, kc6, kc7, kc8, kc9, kc10, kc11, kc12, kc13, kc14, kc15, kc16, kc17, kc18, kc19, kc20, kc21, kc22, kc23, kc24, kc25, kc26, kc27, kc28, kc29, kc30, kc31, kc32, kc33] at q25
            iterate 5 (refine hX _ ?_; conv => whnf)
            refine hX _ ?_; conv => whnf
            try (simp (disch := omega) only [bg_w_id, Int.toNat_natCast, rw_land, sh_land, not_true_eq_false, y3, y4, x3, x4, bg_up_ne]; try conv => whnf)
            refine ⟨by first | omega | (simp (disch := omega) only [bg_w_id, Int.toNat_natCast, rw_land, sh_land, not_true_eq_false, y3, y4, x3, x4, bg_up_ne]; omega), ?_⟩
            iterate 3 (refine hX _ ?_; conv => whnf)
            refine hX _ ?_; conv => whnf
            try (simp (disch := omega) only [bg_w_id, Int.toNat_natCast, rw_land, sh_land, not_true_eq_false, y3, y4, x3, x4, bg_up_ne]; try conv => whnf)
            refine ⟨by first | omega | (simp (disch := omega) only [bg_w_id, Int.toNat_natCast, rw_land, sh_land, not_true_eq_false, y3, y4, x3, x4, bg_up_ne]; omega), ?_⟩
            refine hX _ ?_; conv => whnf
            refine ⟨fun q46 => ?_, fun q46 => ?_⟩
            · try simp (disch := omega) only [bg_w_id, Int.toNat_natCast, rw_land, sh_land, not_true_eq_false, y3, y4, x3, x4, bg_up_ne, kc0, kc1, kc2, kc3, kc4, kc5, kc6, kc7, kc8, kc9, kc10, kc11, kc12, kc13, kc14, kc15, kc16, kc17, kc18, kc19, kc20, kc21, kc22, kc23, kc24, kc25, kc26, kc27, kc28, kc29, kc30, kc31, kc32, kc33] at q46
              iterate 6 (refine hX _ ?_; conv => whnf)
              refine hX _ ?_; conv => whnf
              try (simp (disch := omega) only [bg_w_id, Int.toNat_natCast, rw_land, sh_land, not_true_eq_false, y3, y4, x3, x4, bg_up_ne]; try conv => whnf)
              refine ⟨by first | omega | (simp (disch := omega) only [bg_w_id, Int.toNat_natCast, rw_land, sh_land, not_true_eq_false, y3, y4, x3, x4, bg_up_ne]; omega), ?_⟩
              refine hX _ ?_; conv => whnf
              try (simp (disch := omega) only [bg_w_id, Int.toNat_natCast, rw_land, sh_land, not_true_eq_false, y3, y4, x3, x4, bg_up_ne]; try conv => whnf)
              refine ⟨by first | omega | (simp (disch := omega) only [bg_w_id, Int.toNat_natCast, rw_land, sh_land, not_true_eq_false, y3, y4, x3, x4, bg_up_ne]; omega), ?_⟩
              iterate 6 (refine hX _ ?_; conv => whnf)
              refine hX _ ?_; conv => whnf
              try (simp (disch := omega) only [bg_w_id, Int.toNat_natCast, rw_land, sh_land, not_true_eq_false, y3, y4, x3, x4, bg_up_ne]; try conv => whnf)
              refine ⟨by first | omega | (simp (disch := omega) only [bg_w_id, Int.toNat_natCast, rw_land, sh_land, not_true_eq_false, y3, y4, x3, x4, bg_up_ne]; omega), ?_⟩
              refine hX _ ?_; conv => whnf
              try (simp (disch := omega) only [bg_w_id, Int.toNat_natCast, rw_land, sh_land, not_true_eq_false, y3, y4, x3, x4, bg_up_ne]; try conv => whnf)
              refine ⟨by first | omega | (simp (disch := omega) only [bg_w_id, Int.toNat_natCast, rw_land, sh_land, not_true_eq_false, y3, y4, x3, x4, bg_up_ne]; omega), ?_⟩
              iterate 2 (refine hX _ ?_; conv => whnf)
              first
              | (exfalso; omega)
              | exact over _ _ (of (by omega))
              | exact kept _ _ (kf (by omega))
            · try simp (disch := omega) only [bg_w_id, Int.toNat_natCast, rw_land, sh_land, not_true_eq_false, y3, y4, x3, x4, bg_up_ne, kc0, kc1, kc2, kc3, kc4, kc5, kc6, kc7, kc8, kc9, kc10, kc11, kc12, kc13, kc14, kc15, kc16, kc17, kc18, kc19, kc20, kc21, kc22, kc23, kc24, kc25, kc26, kc27, kc28, kc29, kc30, kc31, kc32, kc33] at q46
              refine hX _ ?_; conv => whnf
              refine hX _ ?_; conv => whnf
              refine ⟨fun q50 => ?_, fun q50 => ?_⟩
              · first
                | (exfalso; (try simp (disch := omega) only [bg_w_id, Int.toNat_natCast, rw_land, sh_land, not_true_eq_false, y3, y4, x3, x4, bg_up_ne, kc0, kc1, kc2, kc3, kc4, kc5, kc6, kc7, kc8, kc9, kc10, kc11, kc12, kc13, kc14, kc15, kc16, kc17, kc18, kc19, kc20, kc21, kc22, kc23, kc24, kc25, kc26, kc27, kc28, kc29, kc30, kc31, kc32, kc33] at q50) <;> omega)
                | (try simp (disch := omega) only [bg_w_id, Int.toNat_natCast, rw_land, sh_land, not_true_eq_false, y3, y4, x3, x4, bg_up_ne, kc0, kc1, kc2, kc3, kc4, kc5, kc6, kc7, kc8, kc9, kc10, kc11, kc12, kc13, kc14, kc15, kc16, kc17, kc18, kc19, kc20, kc21, kc22, kc23, kc24, kc25, kc26, kc27, kc28, kc29, kc30, kc31, kc32, kc33] at q50
                   iterate 2 (refine hX _ ?_; conv => whnf)
                   first
                   | (exfalso; omega)
                   | exact over _ _ (of (by omega))
                   | exact kept _ _ (kf (by omega)))
              · first
                | (exfalso; (try simp (disch := omega) only [bg_w_id, Int.toNat_natCast, rw_land, sh_land, not_true_eq_false, y3, y4, x3, x4, bg_up_ne, kc0, kc1, kc2, kc3, kc4, kc5, kc6, kc7, kc8, kc9, kc10, kc11, kc12, kc13, kc14, kc15, kc16, kc17, kc18, kc19, kc20, kc21, kc22, kc23, kc24, kc25, kc26, kc27, kc28, kc29, kc30, kc31, kc32, kc33] at q50) <;> omega)
                | (try simp (disch := omega) only [bg_w_id, Int.toNat_natCast, rw_land, sh_land, not_true_eq_false, y3, y4, x3, x4, bg_up_ne, kc0, kc1, kc2, kc3, kc4, kc5, kc6, kc7, kc8, kc9, kc10, kc11, kc12, kc13, kc14, kc15, kc16, kc17, kc18, kc19, kc20, kc21, kc22, kc23, kc24, kc25, kc26, kc27, kc28, kc29, kc30, kc31, kc32, kc33] at q50
                   iterate 3 (refine hX _ ?_; conv => whnf)
                   refine hX _ ?_; conv => whnf
                   try (simp (disch := omega) only [bg_w_id, Int.toNat_natCast, rw_land, sh_land, not_true_eq_false, y3, y4, x3, x4, bg_up_ne]; try conv => whnf)
                   refine ⟨by first | omega | (simp (disch := omega) only [bg_w_id, Int.toNat_natCast, rw_land, sh_land, not_true_eq_false, y3, y4, x3, x4, bg_up_ne]; omega), ?_⟩
                   iterate 3 (refine hX _ ?_; conv => whnf)
                   refine hX _ ?_; conv => whnf
                   try (simp (disch := omega) only [bg_w_id, Int.toNat_natCast, rw_land, sh_land, not_true_eq_false, y3, y4, x3, x4, bg_up_ne]; try conv => whnf)
                   refine ⟨by first | omega | (simp (disch := omega) only [bg_w_id, Int.toNat_natCast, rw_land, sh_land, not_true_eq_false, y3, y4, x3, x4, bg_up_ne]; omega), ?_⟩
                   refine hX _ ?_; conv => whnf
                   refine ⟨fun q65 => ?_, fun q65 => ?_⟩
                   · try simp (disch := omega) only [bg_w_id, Int.toNat_natCast, rw_land, sh_land, not_true_eq_false, y3, y4, x3, x4, bg_up_ne, kc0, kc1, kc2, kc3, kc4, kc5, kc6, kc7, kc8, kc9, kc10, kc11, kc12, kc13, kc14, kc15, kc16, kc17, kc18, kc19, kc20, kc21, kc22, kc23, kc24, kc25, kc26, kc27, kc28, kc29, kc30, kc31, kc32, kc33] at q65
                     iterate 2 (refine hX _ ?_; conv => whnf)
                     first
                     | (exfalso; omega)
                     | exact over _ _ (of (by omega))
                     | exact kept _ _ (kf (by omega))
                   · try simp (disch := omega) only [bg_w_id, Int.toNat_natCast, rw_land, sh_land, not_true_eq_false, y3, y4, x3, x4, bg_up_ne, kc0, kc1, kc2, kc3, kc4, kc5, kc6, kc7, kc8, kc9, kc10, kc11, kc12, kc13, kc14, kc15, kc16, kc17, kc18, kc19, kc20, kc21, kc22, kc23, kc24, kc25, kc26, kc27, kc28, kc29, kc30, kc31, kc32, kc33] at q65
                     iterate 6 (refine hX _ ?_; conv => whnf)
                     refine hX _ ?_; conv => whnf
                     try (simp (disch := omega) only [bg_w_id, Int.toNat_natCast, rw_land, sh_land, not_true_eq_false, y3, y4, x3, x4, bg_up_ne]; try conv => whnf)
                     refine ⟨by first | omega | (simp (disch := omega) only [bg_w_id, Int.toNat_natCast, rw_land, sh_land, not_true_eq_false, y3, y4, x3, x4, bg_up_ne]; omega), ?_⟩
                     refine hX _ ?_; conv => whnf
                     try (simp (disch := omega) only [bg_w_id, Int.toNat_natCast, rw_land, sh_land, not_true_eq_false, y3, y4, x3, x4, bg_up_ne]; try conv => whnf)
                     refine ⟨by first | omega | (simp (disch := omega) only [bg_w_id, Int.toNat_natCast, rw_land, sh_land, not_true_eq_false, y3, y4, x3, x4, bg_up_ne]; omega), ?_⟩
                     iterate 6 (refine hX _ ?_; conv => whnf)
                     refine hX _ ?_; conv => whnf
                     try (simp (disch := omega) only [bg_w_id, Int.toNat_natCast, rw_land, sh_land, not_true_eq_false, y3, y4, x3, x4, bg_up_ne]; try conv => whnf)
                     refine ⟨by first | omega | (simp (disch := omega) only [bg_w_id, Int.toNat_natCast, rw_land, sh_land, not_true_eq_false, y3, y4, x3, x4, bg_up_ne]; omega), ?_⟩
                     refine hX _ ?_; conv => whnf
                     try (simp (disch := omega) only [bg_w_id, Int.toNat_natCast, rw_land, sh_land, not_true_eq_false, y3, y4, x3, x4, bg_up_ne]; try conv => whnf)
                     refine ⟨by first | omega | (simp (disch := omega) only [bg_w_id, Int.toNat_natCast, rw_land, sh_land, not_true_eq_false, y3, y4, x3, x4, bg_up_ne]; omega), ?_⟩
                     iterate 2 (refine hX _ ?_; conv => whnf)
                     first
                     | (exfalso; omega)
                     | exact over _ _ (of (by omega))
                     | exact kept _ _ (kf (by omega)))
          · try simp (disch := omega) only [bg_w_id, Int.toNat_natCast, rw_land, sh_land, not_true_eq_false, y3, y4, x3, x4, bg_up_ne, kc0, kc1, kc2, kc3, kc4, kc5, kc6, kc7, kc8, kc9, kc10, kc11, kc12, kc13, kc14, kc15, kc16, kc17, kc18, kc19, kc20, kc21, kc22, kc23, kc24, kc25, kc26, kc27, kc28, kc29, kc30, kc31, kc32, kc33] at q25
            iterate 6 (refine hX _ ?_; conv => whnf)
            refine hX _ ?_; conv => whnf
            try (simp (disch := omega) only [bg_w_id, Int.toNat_natCast, rw_land, sh_land, not_true_eq_false, y3, y4, x3, x4, bg_up_ne]; try conv => whnf)
            refine ⟨by first | omega | (simp (disch := omega) only [bg_w_id, Int.toNat_natCast, rw_land, sh_land, not_true_eq_false, y3, y4, x3, x4, bg_up_ne]; omega), ?_⟩
            iterate 3 (refine hX _ ?_; conv => whnf)
            refine hX _ ?_; conv => whnf
            try (simp (disch := omega) only [bg_w_id, Int.toNat_natCast, rw_land, sh_land, not_true_eq_false, y3, y4, x3, x4, bg_up_ne]; try conv => whnf)
            refine ⟨by first | omega | (simp (disch := omega) only [bg_w_id, Int.toNat_natCast, rw_land, sh_land, not_true_eq_false, y3, y4, x3, x4, bg_up_ne]; omega), ?_⟩
            refine hX _ ?_; conv => whnf
            refine ⟨fun q46 => ?_, fun q46 => ?_⟩
            · try simp (disch := omega) only [bg_w_id, Int.toNat_natCast, rw_land, sh_land, not_true_eq_false, y3, y4, x3, x4, bg_up_ne, kc0, kc1, kc2, kc3, kc4, kc5, kc6, kc7, kc8, kc9, kc10, kc11, kc12, kc13, kc14, kc15, kc16, kc17, kc18, kc19, kc20, kc21, kc22, kc23, kc24, kc25, kc26, kc27, kc28, kc29, kc30, kc31, kc32, kc33] at q46
              iterate 6 (refine hX _ ?_; conv => whnf)
              refine hX _ ?_; conv => whnf
              try (simp (disch := omega) only [bg_w_id, Int.toNat_natCast, rw_land, sh_land, not_true_eq_false, y3, y4, x3, x4, bg_up_ne]; try conv => whnf)
              refine ⟨by first | omega | (simp (disch := omega) only [bg_w_id, Int.toNat_natCast, rw_land, sh_land, not_true_eq_false, y3, y4, x3, x4, bg_up_ne]; omega), ?_⟩
              refine hX _ ?_; conv => whnf
              try (simp (disch := omega) only [bg_w_id, Int.toNat_natCast, rw_land, sh_land, not_true_eq_false, y3, y4, x3, x4, bg_up_ne]; try conv => whnf)
              refine ⟨by first | omega | (simp (disch := omega) only [bg_w_id, Int.toNat_natCast, rw_land, sh_land, not_true_eq_false, y3, y4, x3, x4, bg_up_ne]; omega), ?_⟩
              iterate 6 (refine hX _ ?_; conv => whnf)
              refine hX _ ?_; conv => whnf
              try (simp (disch := omega) only [bg_w_id, Int.toNat_natCast, rw_land, sh_land, not_true_eq_false, y3, y4, x3, x4, bg_up_ne]; try conv => whnf)
              refine ⟨by first | omega | (simp (disch := omega) only [bg_w_id, Int.toNat_natCast, rw_land, sh_land, not_true_eq_false, y3, y4, x3, x4, bg_up_ne]; omega), ?_⟩
              refine hX _ ?_; conv => whnf
              try (simp (disch := omega) only [bg_w_id, Int.toNat_natCast, rw_land, sh_land, not_true_eq_false, y3, y4, x3, x4, bg_up_ne]; try conv => whnf)
              refine ⟨by first | omega | (simp (disch := omega) only [bg_w_id, Int.toNat_natCast, rw_land, sh_land, not_true_eq_false, y3, y4, x3, x4, bg_up_ne]; omega), ?_⟩
              iterate 2 (refine hX _ ?_; conv => whnf)
              first
              | (exfalso; omega)
              | exact over _ _ (of (by omega))
              | exact kept _ _ (kf (by omega))
            · try simp (disch := omega) only [bg_w_id, Int.toNat_natCast, rw_land, sh_land, not_true_eq_false, y3, y4, x3, x4, bg_up_ne, kc0, kc1, kc2, kc3, kc4, kc5, kc6, kc7, kc8, kc9, kc10, kc11, kc12, kc13, kc14, kc15, kc16, kc17, kc18, kc19, kc20, kc21, kc22, kc23, kc24, kc25, kc26, kc27, kc28, kc29, kc30, kc31, kc32, kc33] at q46
              refine hX _ ?_; conv => whnf
              refine hX _ ?_; conv => whnf
              refine ⟨fun q50 => ?_, fun q50 => ?_⟩
              · first
                | (exfalso; (try simp (disch := omega) only [bg_w_id, Int.toNat_natCast, rw_land, sh_land, not_true_eq_false, y3, y4, x3, x4, bg_up_ne, kc0, kc1, kc2, kc3, kc4, kc5, kc6, kc7, kc8, kc9, kc10, kc11, kc12, kc13, kc14, kc15, kc16, kc17, kc18, kc19, kc20, kc21, kc22, kc23, kc24, kc25, kc26, kc27, kc28, kc29, kc30, kc31, kc32, kc33] at q50) <;> omega)
                | (try simp (disch := omega) only [bg_w_id, Int.toNat_natCast, rw_land, sh_land, not_true_eq_false, y3, y4, x3, x4, bg_up_ne, kc0, kc1, kc2, kc3, kc4, kc5, kc6, kc7, kc8, kc9, kc10, kc11, kc12, kc13, kc14, kc15, kc16, kc17, kc18, kc19, kc20, kc21, kc22, kc23, kc24, kc25, kc26, kc27, kc28, kc29, kc30, kc31, kc32, kc33] at q50
                   iterate 2 (refine hX _ ?_; conv => whnf)
                   first
                   | (exfalso; omega)
                   | exact over _ _ (of (by omega))
                   | exact kept _ _ (kf (by omega)))
              · first
                | (exfalso; (try simp (disch := omega) only [bg_w_id, Int.toNat_natCast, rw_land, sh_land, not_true_eq_false, y3, y4, x3, x4, bg_up_ne, kc0, kc1, kc2, kc3, kc4, kc5, kc6, kc7, kc8, kc9, kc10, kc11, kc12, kc13, kc14, kc15, kc16, kc17, kc18, kc19, kc20, kc21, kc22, kc23, kc24, kc25, kc26, kc27, kc28, kc29, kc30, kc31, kc32, kc33] at q50) <;> omega)
                | (try simp (disch := omega) only [bg_w_id, Int.toNat_natCast, rw_land, sh_land, not_true_eq_false, y3, y4, x3, x4, bg_up_ne, kc0, kc1, kc2, kc3, kc4, kc5, kc6, kc7, kc8, kc9, kc10, kc11, kc12, kc13, kc14, kc15, kc16, kc17, kc18, kc19, kc20, kc21, kc22, kc23, kc24, kc25, kc26, kc27, kc28, kc29, kc30, kc31, kc32, kc33] at q50
                   iterate 3 (refine hX _ ?_; conv => whnf)
                   refine hX _ ?_; conv => whnf
                   try (simp (disch := omega) only [bg_w_id, Int.toNat_natCast, rw_land, sh_land, not_true_eq_false, y3, y4, x3, x4, bg_up_ne]; try conv => whnf)
                   refine ⟨by first | omega | (simp (disch := omega) only [bg_w_id, Int.toNat_natCast, rw_land, sh_land, not_true_eq_false, y3, y4, x3, x4, bg_up_ne]; omega), ?_⟩
                   iterate 3 (refine hX _ ?_; conv => whnf)
                   refine hX _ ?_; conv => whnf
                   try (simp (disch := omega) only [bg_w_id, Int.toNat_natCast, rw_land, sh_land, not_true_eq_false, y3, y4, x3, x4, bg_up_ne]; try conv => whnf)
                   refine ⟨by first | omega | (simp (disch := omega) only [bg_w_id, Int.toNat_natCast, rw_land, sh_land, not_true_eq_false, y3, y4, x3, x4, bg_up_ne]; omega), ?_⟩
                   refine hX _ ?_; conv => whnf
                   refine ⟨fun q65 => ?_, fun q65 => ?_⟩
                   · try simp (disch := omega) only [bg_w_id, Int.toNat_natCast, rw_land, sh_land, not_true_eq_false, y3, y4, x3, x4, bg_up_ne, kc0, kc1, kc2, kc3, kc4, kc5, kc6, kc7, kc8, kc9, kc10, kc11, kc12, kc13, kc14, kc15, kc16, kc17, kc18, kc19, kc20, kc21, kc22, kc23, kc24, kc25, kc26, kc27, kc28, kc29, kc30, kc31, kc32, kc33] at q65
                     iterate 2 (refine hX _ ?_; conv => whnf)
                     first
                     | (exfalso; omega)
                     | exact over _ _ (of (by omega))
                     | exact kept _ _ (kf (by omega))
                   · try simp (disch := omega) only [bg_w_id, Int.toNat_natCast, rw_land, sh_land, not_true_eq_false, y3, y4, x3, x4, bg_up_ne, kc0, kc1, kc2, kc3, kc4, kc5, kc6, kc7, kc8, kc9, kc10, kc11, kc12, kc13, kc14, kc15, kc16, kc17, kc18, kc19, kc20, kc21, kc22, kc23, kc24, kc25, kc26, kc27, kc28, kc29, kc30, kc31, kc32, kc33] at q65
                     iterate 6 (refine hX _ ?_; conv => whnf)
                     refine hX _ ?_; conv => whnf
                     try (simp (disch := omega) only [bg_w_id, Int.toNat_natCast, rw_land, sh_land, not_true_eq_false, y3, y4, x3, x4, bg_up_ne]; try conv => whnf)
                     refine ⟨by first | omega | (simp (disch := omega) only [bg_w_id, Int.toNat_natCast, rw_land, sh_land, not_true_eq_false, y3, y4, x3, x4, bg_up_ne]; omega), ?_⟩
                     refine hX _ ?_; conv => whnf
                     try (simp (disch := omega) only [bg_w_id, Int.toNat_natCast, rw_land, sh_land, not_true_eq_false, y3, y4, x3, x4, bg_up_ne]; try conv => whnf)
                     refine ⟨by first | omega | (simp (disch := omega) only [bg_w_id, Int.toNat_natCast, rw_land, sh_land, not_true_eq_false, y3, y4, x3, x4, bg_up_ne]; omega), ?_⟩
                     iterate 6 (refine hX _ ?_; conv => whnf)
                     refine hX _ ?_; conv => whnf
                     try (simp (disch := omega) only [bg_w_id, Int.toNat_natCast, rw_land, sh_land, not_true_eq_false, y3, y4, x3, x4, bg_up_ne]; try conv => whnf)
                     refine ⟨by first | omega | (simp (disch := omega) only [bg_w_id, Int.toNat_natCast, rw_land, sh_land, not_true_eq_false, y3, y4, x3, x4, bg_up_ne]; omega), ?_⟩
                     refine hX _ ?_; conv => whnf
                     try (simp (disch := omega) only [bg_w_id, Int.toNat_natCast, rw_land, sh_land, not_true_eq_false, y3, y4, x3, x4, bg_up_ne]; try conv => whnf)
                     refine ⟨by first | omega | (simp (disch := omega) only [bg_w_id, Int.toNat_natCast, rw_land, sh_land, not_true_eq_false, y3, y4, x3, x4, bg_up_ne]; omega), ?_⟩
                     iterate 2 (refine hX _ ?_; conv => whnf)
                     first
                     | (exfalso; omega)
                     | exact over _ _ (of (by omega))
                     | exact kept _ _ (kf (by omega)))
  iterate 2 (refine hX _ ?_; conv => whnf)
  exact l1 1 (by omega) (by omega) h _ _ (fun _ _ _ => rfl) (fun c' hc' => by rw [show c' = 0 by omega]; exact full_0 ho (hx 0 (by omega))) (fun c' _ b => hx c' b)
def affF (h h' : bg_G) : Prop := ∀ m : Nat, m < 2 ^ (h 117 0).toNat → (h' 48 m = -1 ∧ ∀ s, ¬ aP h m s) ∨ (∃ s, aP h m s ∧ h' 48 m = s ∧ ∀ s', aP h m s' → s ≤ s')
def PLN (h h' : bg_G) : Prop := h' 46 6 = ((2 ^ (h 117 0).toNat : Nat) : Int) ∧ (∀ m : Nat, m < 2 ^ (h 117 0).toNat → h' 47 m = mh h m) ∧ affF h h' ∧ ∀ c : Nat, c ≤ 300 → fullI h h' c
theorem bsC_fr {h h' : bg_G} (e : ∀ p : Nat, p < 12 → h' (24 + p) = h (24 + p)) (cp m : Int) : bsC h' cp m = bsC h cp m := sm_congr (fun p hp => by rw [bearC_fr (e p hp)])
theorem bsC_cut (h : bg_G) (m : Int) (c : Nat) : bsC h (h 39 c) m = cutC h m (-1) c := sm_congr (fun p hp => by
  unfold brC
  rw [if_neg (by omega)])
theorem sub_le {a b : Nat} (ha : a < 4096) (hb : b < 4096) (hs : bg_and (a : Int) (bg_xor (b : Int) (-1)) = 0) : a ≤ b ∧ ∀ i : Nat, i < 12 → bt a i = 1 → bt b i = 1 := by
  rw [and_not0] at hs
  have tb : ∀ i, a.testBit i = true → b.testBit i = true := by
    intro i hi
    have hi2 : i < 12 := by
      refine Decidable.byContradiction (fun c => ?_)
      rw [tb_lt (n := 12) (by omega) (by omega)] at hi
      exact absurd hi (by decide)
    have := hs i (by omega) (by rw [bv_of, BitVec.getLsbD_ofNat]; simp [hi]; omega)
    rw [BitVec.getLsbD_ofNat] at this
    simp at this
    exact this.2
  refine ⟨?_, fun i hi h1 => ?_⟩
  · have e : a &&& b = a := by
      refine Nat.eq_of_testBit_eq (fun i => ?_)
      rw [Nat.testBit_and]
      cases e : a.testBit i
      · rfl
      · rw [tb i e]; rfl
    rw [← e]
    exact Nat.and_le_right
  · rw [bt_tb1 (by omega) (by omega)] at h1 ⊢
    exact tb i h1
theorem wls_at {f g : Nat → Int} : ∀ n, (wls f g n).1 = 2147483647 ∨ ∃ c, c < n ∧ (wls f g n).1 = f c
  | 0 => Or.inl rfl
  | n + 1 => by
    have ih := wls_at (f := f) (g := g) n
    unfold wls
    split
    · exact Or.inr ⟨n, by omega, rfl⟩
    · rcases ih with e | ⟨c, e1, e2⟩
      · exact Or.inl e
      · exact Or.inr ⟨c, by omega, e2⟩
/-- the least over the cuts that are needed is the least of all -/
theorem need_all {h : bg_G} (hr : REL h) (hs : svC h) {v : Nat → Int} {M : Nat} (hv : ∀ m, m < M → v m = 2147483647 ∨ ∃ c : Nat, c < 64 ∧ v m = bsC h (h 39 c) m) (hc : ∀ c : Nat, c < 64 → (∀ m : Nat, m < M → v m ≤ bsC h (h 39 c) m) ∨ ∃ c2 : Nat, c2 < 64 ∧ subC h c2 c) : ∀ m, m < M → v m = mh h m := by
  have ho := hr.1
  have hn := hr.2.1.1
  have out : ∀ c : Nat, c < 64 → ∃ o : Nat, o < 4096 ∧ h 39 c = o := fun c hc => by
    refine ⟨stN (h 117 0).toNat (outP (fun p => h 118 (7 * p)) (fun p => h 118 (7 * p + 1)) (plc c)), Nat.lt_of_lt_of_le (stN_lt _ _) (show 2 ^ (h 117 0).toNat ≤ 2 ^ 12 from Nat.pow_le_pow_right (by decide) (by omega)), ?_⟩
    rw [hs c hc, outC_st hr c]
  have all : ∀ k c : Nat, c < 64 → (h 39 c).toNat * 64 + c ≤ k → ∀ m : Nat, m < M → v m ≤ bsC h (h 39 c) m := by
    intro k
    induction k with
    | zero =>
      intro c h1 h2 m hm
      rcases hc c h1 with x | ⟨c2, x1, x2, x3⟩
      · exact x m hm
      · obtain ⟨o, o1, o2⟩ := out c h1
        obtain ⟨o', o1', o2'⟩ := out c2 x1
        rw [o2, o2'] at x2 x3
        have := (sub_le o1' o1 x2).1
        rw [o2] at h2
        omega
    | succ k ih =>
      intro c h1 h2 m hm
      rcases hc c h1 with x | ⟨c2, x1, x2, x3⟩
      · exact x m hm
      · obtain ⟨o, o1, o2⟩ := out c h1
        obtain ⟨o', o1', o2'⟩ := out c2 x1
        rw [o2, o2'] at x2 x3
        obtain ⟨z1, z2⟩ := sub_le o1' o1 x2
        rw [o2] at h2
        have i2 := ih c2 x1 (by rw [o2']; omega) m hm
        refine Int.le_trans i2 ?_
        rw [o2, o2']
        refine sm_le (fun p hp => ?_)
        have rb := bearC_rg ho (held := (m : Int)) (b := 0) hp (by omega)
        have z3 := z2 p hp
        rcases bt_01 (o' : Int) p with a | a <;> rcases bt_01 (o : Int) p with b | b <;> rw [a, b] <;> omega
  intro m hm
  have h1 := wls_at (f := cutC h m (-1)) (g := plc) 64
  have h2 := fun c hc => wls_le (f := cutC h m (-1)) (g := plc) 64 c hc
  have e : mh h m = (wls (cutC h m (-1)) plc 64).1 := by
    unfold mh
    rw [← mc_eq hr hs (Or.inl ⟨rfl, rfl⟩)]
    rfl
  rw [e]
  have a0 := all _ 0 (by omega) (Nat.le_refl _) m hm
  rw [bsC_cut] at a0
  have r0 := cutC_rg ho (held := (m : Int)) (one := -1) (c := 0)
  have l0 := h2 0 (by omega)
  rcases h1 with h1 | ⟨c, hc1, hc2⟩
  · omega
  · have a1 := all _ c hc1 (Nat.le_refl _) m hm
    rw [bsC_cut] at a1
    rcases hv m hm with x | ⟨c', x1, x2⟩
    · omega
    · have := h2 c' x1
      rw [bsC_cut] at x2
      omega
theorem s_prepare0 (d n : Nat) (h : bg_G) (hr : REL h) (hs : svC h) (h7 : h 46 7 = 0) (Rt : bg_R) (hR : ∀ h' : bg_G, fr45 h h' → h' 46 7 = 1 → h' 46 8 = h 46 8 → h' 46 9 = h 46 9 → PLN h h' → Rt none (bg_SH n, h')) : bg_Ca bg_MS (d + 4) 49 [vR 46, vR 22, vR 38] (bg_SH n, h) Rt := by
  have ho := hr.2.1
  have hn := ho.1
  have hoC := hr.1
  have r0 := hr.2.2.2.1
  obtain ⟨N, eN⟩ : ∃ N : Nat, N = (h 117 0).toNat := ⟨_, rfl⟩
  obtain ⟨nt, ent⟩ : ∃ nt : Nat, nt = (h 119 0).toNat := ⟨_, rfl⟩
  have eN1 : h 22 3 = (N : Int) := by rw [r0.1]; omega
  have ent1 : h 22 4 = (nt : Int) := by rw [r0.2.1]; omega
  have hM : 2 ^ N ≤ 4096 := (show 2 ^ N ≤ 2 ^ 12 from Nat.pow_le_pow_right (by decide) (by omega))
  have hT : 2 ^ nt ≤ 8 := (show 2 ^ nt ≤ 2 ^ 3 from Nat.pow_le_pow_right (by decide) (by omega))
  have hM1 : 1 ≤ 2 ^ N := Nat.one_le_two_pow
  have hT1 : 1 ≤ 2 ^ nt := Nat.one_le_two_pow
  have e1 : bg_shl 1 (N : Int) = ((2 ^ N : Nat) : Int) := bn_bit (by omega)
  have e2 : bg_shl 1 (nt : Int) = ((2 ^ nt : Nat) : Int) := bn_bit (by omega)
  have hsets : bg_up h 46 6 (if bg_w 4096 < bg_w (bg_shl 1 (h 22 3)) then 4096 else bg_shl 1 (h 22 3)) 46 6 = ((2 ^ N : Nat) : Int) := by
    rw [bg_up_self, eN1, e1, bg_w_id (by omega) (by omega), bg_w_id (by omega) (by omega), if_neg (by omega)]
  have i39 : ∀ c : Nat, c < 64 → i32 (h 39 c) := fun c hc => by
    rw [hs c hc, outC_st hr c]
    have : stN (h 117 0).toNat (outP (fun p => h 118 (7 * p)) (fun p => h 118 (7 * p + 1)) (plc c)) < 2 ^ (h 117 0).toNat := stN_lt _ _
    rw [← eN] at this ⊢
    omega
  refine bg_ca (cd := cd_X4_prepare) rfl rfl ?_
  intro X hX
  -- the towers
  have l2 : ∀ b : Nat, b ≤ 2 ^ nt → ∀ h' : bg_G, fr45 h h' → h' 46 8 = h 46 8 → h' 46 9 = h 46 9 → h' 46 6 = ((2 ^ N : Nat) : Int) → (∀ m : Nat, m < 2 ^ N → h' 47 m = mh h m) → (∀ m : Nat, m < 2 ^ N → h' 49 m = vS (fun p => h (24 + p) 4) m) → affI h h' (4096 * b) → bstI h h' (4096 * b) → X (99, [oR 46, oR 22, oR 38, oI (b : Int)], [], (bg_SH n, h'), (0, 0)) := by
    refine lp_up _ _ ?_ (fun b hb ih => ?_)
    · intro h' f1 f8 f9 f6 f2 f3 f4 f5
      have e22 := f1 22 (by omega)
      iterate 5 (refine hX _ ?_; conv => whnf)
      try simp only [kc0, kc1, kc2, kc3, kc4, kc5, kc6, kc7, kc8, kc9, kc10, kc11, kc12, kc13, kc14, kc15, kc16, kc17, kc18, kc19, kc20, kc21, kc22, kc23, kc24, kc25, kc26, kc27, kc28, kc29, kc30, kc31, kc32, kc33]
      refine hX _ ?_; conv => whnf
      refine ⟨fun q106 => ?_, fun q106 => ?_⟩
      · try simp (disch := omega) only [bg_w_id, Int.toNat_natCast, rw_land, sh_land, not_true_eq_false, e22, ent1, e2, kc0, kc1, kc2, kc3, kc4, kc5, kc6, kc7, kc8, kc9, kc10, kc11, kc12, kc13, kc14, kc15, kc16, kc17, kc18, kc19, kc20, kc21, kc22, kc23, kc24, kc25, kc26, kc27, kc28, kc29, kc30, kc31, kc32, kc33] at q106
        refine hX _ ?_; conv => whnf
        refine hX _ ?_; conv => whnf
        try simp (disch := omega) only [bg_w_id, Int.toNat_natCast, rw_land, sh_land, not_true_eq_false, e22, ent1, e2]
        refine s_spreadBest (d + 2) n h ho h' (fun c hc => ?_) _ (fun h2 g1 g2 => ?_)
        · rcases f5 c hc with ⟨x1, x2, x3⟩ | ⟨s, x1, x2, x3, x4, x5, x6⟩
          · refine Or.inl ⟨x1, x2, fun s hs => x3 s ?_ hs⟩
            obtain ⟨a, b, ha, hb, e, ha12, hb8⟩ := okN_ex ho hs
            rw [← ent] at hb
            omega
          · refine Or.inr ⟨s, x2, x3, x4, x5, fun s' hs' => x6 s' ?_ hs'⟩
            obtain ⟨a, b, ha, hb, e, ha12, hb8⟩ := okN_ex ho hs'
            rw [← ent] at hb
            omega
        conv => whnf
        iterate 2 (refine hX _ ?_; conv => whnf)
        refine hX _ ?_; conv => whnf
        refine ⟨by first | exact Or.inr rfl | exact Or.inl rfl | omega, ?_⟩
        try simp only [kc0, kc1, kc2, kc3, kc4, kc5, kc6, kc7, kc8, kc9, kc10, kc11, kc12, kc13, kc14, kc15, kc16, kc17, kc18, kc19, kc20, kc21, kc22, kc23, kc24, kc25, kc26, kc27, kc28, kc29, kc30, kc31, kc32, kc33]
        refine hX _ ?_; conv => whnf
        refine hR _ (fun k hk => ?_) ?_ ?_ ?_ ⟨?_, fun m hm => ?_, fun m hm => ?_, fun c hc => ?_⟩
        · rw [bg_up_ne (by omega), g1 k (by omega) (by omega)]; exact f1 k hk
        · exact bg_up_self _ _ _ _
        · rw [bg_up_nj (by decide), g1 46 (by omega) (by omega)]; exact f8
        · rw [bg_up_nj (by decide), g1 46 (by omega) (by omega)]; exact f9
        · rw [bg_up_nj (by decide), g1 46 (by omega) (by omega), ← eN]; exact f6
        · rw [bg_up_ne (by omega), g1 47 (by omega) (by omega)]; exact f2 m (by rw [eN]; exact hm)
        · rw [bg_up_ne (by omega), g1 48 (by omega) (by omega)]
          rcases f4 m hm with ⟨x1, x2⟩ | ⟨s, x1, x2⟩
          · refine Or.inl ⟨x1, fun s hs => x2 s ?_ hs⟩
            obtain ⟨a, b, ha, hb, e, ha12, hb8⟩ := okN_ex ho hs.1
            rw [← ent] at hb
            omega
          · exact Or.inr ⟨s, x2⟩
        · exact full_fr (by rw [bg_up_ne (by omega)]) (by rw [bg_up_ne (by omega)]) (g2 c hc)
      · exfalso
        (try simp (disch := omega) only [bg_w_id, Int.toNat_natCast, rw_land, sh_land, not_true_eq_false, e22, ent1, e2, kc0, kc1, kc2, kc3, kc4, kc5, kc6, kc7, kc8, kc9, kc10, kc11, kc12, kc13, kc14, kc15, kc16, kc17, kc18, kc19, kc20, kc21, kc22, kc23, kc24, kc25, kc26, kc27, kc28, kc29, kc30, kc31, kc32, kc33] at q106) <;> (omega)
    · intro h' f1 f8 f9 f6 f2 f3 f4 f5
      have e22 := f1 22 (by omega)
      have e3 : bg_shl (b : Int) 12 = ((4096 * b : Nat) : Int) := by
        rw [show (12 : Int) = ((12 : Nat) : Int) from rfl, bn_shl (by omega) (by omega)]
        congr 1
        omega
      iterate 5 (refine hX _ ?_; conv => whnf)
      try simp only [kc0, kc1, kc2, kc3, kc4, kc5, kc6, kc7, kc8, kc9, kc10, kc11, kc12, kc13, kc14, kc15, kc16, kc17, kc18, kc19, kc20, kc21, kc22, kc23, kc24, kc25, kc26, kc27, kc28, kc29, kc30, kc31, kc32, kc33]
      refine hX _ ?_; conv => whnf
      refine ⟨fun q106 => ?_, fun q106 => ?_⟩
      · exfalso
        (try simp (disch := omega) only [bg_w_id, Int.toNat_natCast, rw_land, sh_land, not_true_eq_false, e22, ent1, e2, kc0, kc1, kc2, kc3, kc4, kc5, kc6, kc7, kc8, kc9, kc10, kc11, kc12, kc13, kc14, kc15, kc16, kc17, kc18, kc19, kc20, kc21, kc22, kc23, kc24, kc25, kc26, kc27, kc28, kc29, kc30, kc31, kc32, kc33] at q106) <;> (omega)
      · try simp (disch := omega) only [bg_w_id, Int.toNat_natCast, rw_land, sh_land, not_true_eq_false, e22, ent1, e2, kc0, kc1, kc2, kc3, kc4, kc5, kc6, kc7, kc8, kc9, kc10, kc11, kc12, kc13, kc14, kc15, kc16, kc17, kc18, kc19, kc20, kc21, kc22, kc23, kc24, kc25, kc26, kc27, kc28, kc29, kc30, kc31, kc32, kc33] at q106
        iterate 2 (refine hX _ ?_; conv => whnf)
        refine hX _ ?_; conv => whnf
        refine ⟨fun q112 => ?_, fun q112 => ?_⟩
        · exfalso
          (try simp (disch := omega) only [bg_w_id, Int.toNat_natCast, rw_land, sh_land, not_true_eq_false, e22, ent1, e2, kc0, kc1, kc2, kc3, kc4, kc5, kc6, kc7, kc8, kc9, kc10, kc11, kc12, kc13, kc14, kc15, kc16, kc17, kc18, kc19, kc20, kc21, kc22, kc23, kc24, kc25, kc26, kc27, kc28, kc29, kc30, kc31, kc32, kc33] at q112) <;> (omega)
        · try simp (disch := omega) only [bg_w_id, Int.toNat_natCast, rw_land, sh_land, not_true_eq_false, e22, ent1, e2, kc0, kc1, kc2, kc3, kc4, kc5, kc6, kc7, kc8, kc9, kc10, kc11, kc12, kc13, kc14, kc15, kc16, kc17, kc18, kc19, kc20, kc21, kc22, kc23, kc24, kc25, kc26, kc27, kc28, kc29, kc30, kc31, kc32, kc33] at q112
          iterate 5 (refine hX _ ?_; conv => whnf)
          refine hX _ ?_; conv => whnf
          try simp (disch := omega) only [bg_w_id, Int.toNat_natCast, rw_land, sh_land, not_true_eq_false, e22, ent1, e2]
          rw [e3]
          refine s_offerAll (d + 1) n b h hr (by rw [← ent]; exact hb) h' f1 (by rw [← eN]; exact f6) (by rw [← eN]; exact f2) (by rw [← eN]; exact f3) f4 f5 _ (fun h2 g1 g2 g3 => ?_)
          have x45 := g1 46 (by omega) (by omega) (by omega)
          conv => whnf
          iterate 2 (refine hX _ ?_; conv => whnf)
          exact ih h2 (fun k hk => by rw [g1 k (by omega) (by omega) (by omega)]; exact f1 k hk) (by rw [x45]; exact f8) (by rw [x45]; exact f9) (by rw [x45]; exact f6) (fun m hm => by rw [g1 47 (by omega) (by omega) (by omega)]; exact f2 m hm) (fun m hm => by rw [g1 49 (by omega) (by omega) (by omega)]; exact f3 m hm) g2 g3
  -- the cuts
  have l1 : ∀ c : Nat, c ≤ 64 → ∀ h' : bg_G, fr45 h h' → h' 46 8 = h 46 8 → h' 46 9 = h 46 9 → h' 46 6 = ((2 ^ N : Nat) : Int) → (∀ m : Nat, m < 4096 → h' 48 m = -1) → (∀ m : Nat, m ≤ 300 → h' 51 m = -1 ∧ h' 52 m = 2147483647) → (∀ m : Nat, m < 2 ^ N → h' 47 m = 2147483647 ∨ ∃ c : Nat, c < 64 ∧ h' 47 m = bsC h (h 39 c) m) → (∀ c' : Nat, c' < c → (∀ m : Nat, m < 2 ^ N → h' 47 m ≤ bsC h (h 39 c') m) ∨ ∃ c2 : Nat, c2 < 64 ∧ subC h c2 c') → X (60, [oR 46, oR 22, oR 38, oI (c : Int)], [], (bg_SH n, h'), (0, 0)) := by
    refine lp_up 64 _ ?_ (fun c hc ih => ?_)
    · intro h' f1 f8 f9 f6 f2 f3 f4 f5
      have key := need_all hr hs (v := fun m : Nat => h' 47 m) f4 f5
      iterate 2 (refine hX _ ?_; conv => whnf)
      refine hX _ ?_; conv => whnf
      refine ⟨fun q63 => ?_, fun q63 => ?_⟩
      · try simp (disch := omega) only [bg_w_id, Int.toNat_natCast, rw_land, sh_land, not_true_eq_false, kc0, kc1, kc2, kc3, kc4, kc5, kc6, kc7, kc8, kc9, kc10, kc11, kc12, kc13, kc14, kc15, kc16, kc17, kc18, kc19, kc20, kc21, kc22, kc23, kc24, kc25, kc26, kc27, kc28, kc29, kc30, kc31, kc32, kc33] at q63
        iterate 3 (refine hX _ ?_; conv => whnf)
        refine hX _ ?_; conv => whnf
        try simp (disch := omega) only [bg_w_id, Int.toNat_natCast, rw_land, sh_land, not_true_eq_false]
        refine s_sumNumbers (d + 1) n N 4 (by omega) (by omega) h' f6 _ (fun h2 g1 g2 => ?_)
        have x45 := g1 46 (by omega) (by omega)
        conv => whnf
        iterate 2 (refine hX _ ?_; conv => whnf)
        refine l2 0 (Nat.zero_le _) h2 (fun k hk => by rw [g1 k (by omega) (by omega)]; exact f1 k hk) (by rw [x45]; exact f8) (by rw [x45]; exact f9) (by rw [x45]; exact f6) (fun m hm => by rw [g1 47 (by omega) (by omega)]; exact key m hm) (fun m hm => ?_) (fun m hm => ?_) (fun c hc => ?_)
        · rw [g2 m hm]
          exact sm_congr (fun p hp => by show _ * h' (24 + p) ((4 : Nat) : Int) = _; rw [f1 (24 + p) (by omega)]; rfl)
        · refine Or.inl ⟨?_, fun s hs => absurd hs (by omega)⟩
          rw [g1 48 (by omega) (by omega)]
          rw [← eN] at hm
          exact f2 m (by omega)
        · refine Or.inl ⟨?_, ?_, fun s hs => absurd hs (by omega)⟩
          · rw [g1 51 (by omega) (by omega)]; exact (f3 c hc).1
          · rw [g1 52 (by omega) (by omega)]; exact (f3 c hc).2
      · exfalso
        (try simp (disch := omega) only [bg_w_id, Int.toNat_natCast, rw_land, sh_land, not_true_eq_false, kc0, kc1, kc2, kc3, kc4, kc5, kc6, kc7, kc8, kc9, kc10, kc11, kc12, kc13, kc14, kc15, kc16, kc17, kc18, kc19, kc20, kc21, kc22, kc23, kc24, kc25, kc26, kc27, kc28, kc29, kc30, kc31, kc32, kc33] at q63) <;> (omega)
    · intro h' f1 f8 f9 f6 f2 f3 f4 f5
      have e39 := f1 39 (by omega)
      have ebs : ∀ cp m, bsC h' cp m = bsC h cp m := bsC_fr (fun p hp => f1 (24 + p) (by omega))
      iterate 2 (refine hX _ ?_; conv => whnf)
      refine hX _ ?_; conv => whnf
      refine ⟨fun q63 => ?_, fun q63 => ?_⟩
      · exfalso
        (try simp (disch := omega) only [bg_w_id, Int.toNat_natCast, rw_land, sh_land, not_true_eq_false, e39, kc0, kc1, kc2, kc3, kc4, kc5, kc6, kc7, kc8, kc9, kc10, kc11, kc12, kc13, kc14, kc15, kc16, kc17, kc18, kc19, kc20, kc21, kc22, kc23, kc24, kc25, kc26, kc27, kc28, kc29, kc30, kc31, kc32, kc33] at q63) <;> (omega)
      · try simp (disch := omega) only [bg_w_id, Int.toNat_natCast, rw_land, sh_land, not_true_eq_false, e39, kc0, kc1, kc2, kc3, kc4, kc5, kc6, kc7, kc8, kc9, kc10, kc11, kc12, kc13, kc14, kc15, kc16, kc17, kc18, kc19, kc20, kc21, kc22, kc23, kc24, kc25, kc26, kc27, kc28, kc29, kc30, kc31, kc32, kc33] at q63
        iterate 2 (refine hX _ ?_; conv => whnf)
        refine hX _ ?_; conv => whnf
        try simp (disch := omega) only [bg_w_id, Int.toNat_natCast, rw_land, sh_land, not_true_eq_false, e39]
        refine s_isNeeded (d + 2) n c hc h' (by rw [e39]; exact i39) _ ?_ (fun hsub => ?_)
        conv => whnf
        rotate_left
        · conv => whnf
          refine hX _ ?_; conv => whnf
          refine ⟨fun _ => ?_, fun q => absurd rfl (by first | exact q | (simp (disch := omega) only [bg_w_id] at q))⟩
          iterate 2 (refine hX _ ?_; conv => whnf)
          refine ih h' f1 f8 f9 f6 f2 f3 f4 (fun c' hc' => ?_)
          by_cases e : c' = c
          · subst e
            right
            obtain ⟨c2, x1, x2⟩ := hsub
            unfold subC at x2
            rw [e39] at x2
            exact ⟨c2, x1, x2⟩
          · exact f5 c' (by omega)
        refine hX _ ?_; conv => whnf
        refine ⟨fun q71 => ?_, fun q71 => ?_⟩
        · exfalso
          (try simp (disch := omega) only [bg_w_id, Int.toNat_natCast, rw_land, sh_land, not_true_eq_false, e39, kc0, kc1, kc2, kc3, kc4, kc5, kc6, kc7, kc8, kc9, kc10, kc11, kc12, kc13, kc14, kc15, kc16, kc17, kc18, kc19, kc20, kc21, kc22, kc23, kc24, kc25, kc26, kc27, kc28, kc29, kc30, kc31, kc32, kc33] at q71) <;> (omega)
        · try simp (disch := omega) only [bg_w_id, Int.toNat_natCast, rw_land, sh_land, not_true_eq_false, e39, kc0, kc1, kc2, kc3, kc4, kc5, kc6, kc7, kc8, kc9, kc10, kc11, kc12, kc13, kc14, kc15, kc16, kc17, kc18, kc19, kc20, kc21, kc22, kc23, kc24, kc25, kc26, kc27, kc28, kc29, kc30, kc31, kc32, kc33] at q71
          iterate 5 (refine hX _ ?_; conv => whnf)
          refine hX _ ?_; conv => whnf
          try (simp (disch := omega) only [bg_w_id, Int.toNat_natCast, rw_land, sh_land, not_true_eq_false, e39]; try conv => whnf)
          refine ⟨by first | omega | (simp (disch := omega) only [bg_w_id, Int.toNat_natCast, rw_land, sh_land, not_true_eq_false, e39]; omega), ?_⟩
          refine hX _ ?_; conv => whnf
          try simp (disch := omega) only [bg_w_id, Int.toNat_natCast, rw_land, sh_land, not_true_eq_false, e39]
          refine s_lowerMost d n N (by omega) _ h' (fr45_okC f1 hoC) f6 (fun m hm => ?_) _ (fun h2 g1 g2 => ?_)
          · rcases f4 m hm with x | ⟨c', x1, x2⟩
            · omega
            · have := bsC_rg hoC (h 39 c') m
              omega
          have x45 := g1 46 (by omega) (by omega) (by omega)
          conv => whnf
          iterate 2 (refine hX _ ?_; conv => whnf)
          refine ih h2 (fun k hk => by rw [g1 k (by omega) (by omega) (by omega)]; exact f1 k hk) (by rw [x45]; exact f8) (by rw [x45]; exact f9) (by rw [x45]; exact f6) (fun m hm => by rw [g1 48 (by omega) (by omega) (by omega)]; exact f2 m hm) (fun m hm => by rw [g1 51 (by omega) (by omega) (by omega), g1 52 (by omega) (by omega) (by omega)]; exact f3 m hm) (fun m hm => ?_) (fun c' hc' => ?_)
          · rw [g2 m hm, ebs]
            split
            · exact Or.inr ⟨c, hc, rfl⟩
            · exact f4 m hm
          · by_cases e : c' = c
            · subst e
              left
              intro m hm
              rw [g2 m hm, ebs]
              split <;> omega
            · rcases f5 c' (by omega) with x | x
              · left
                intro m hm
                have := x m hm
                rw [g2 m hm, ebs]
                split <;> omega
              · exact Or.inr x
  iterate 2 (refine hX _ ?_; conv => whnf)
  try simp only [kc0, kc1, kc2, kc3, kc4, kc5, kc6, kc7, kc8, kc9, kc10, kc11, kc12, kc13, kc14, kc15, kc16, kc17, kc18, kc19, kc20, kc21, kc22, kc23, kc24, kc25, kc26, kc27, kc28, kc29, kc30, kc31, kc32, kc33]
  refine hX _ ?_; conv => whnf
  refine ⟨fun q4 => ?_, fun q4 => ?_⟩
  · try simp (disch := omega) only [bg_w_id, Int.toNat_natCast, rw_land, sh_land, not_true_eq_false, kc0, kc1, kc2, kc3, kc4, kc5, kc6, kc7, kc8, kc9, kc10, kc11, kc12, kc13, kc14, kc15, kc16, kc17, kc18, kc19, kc20, kc21, kc22, kc23, kc24, kc25, kc26, kc27, kc28, kc29, kc30, kc31, kc32, kc33] at q4
    iterate 11 (refine hX _ ?_; conv => whnf)
    try simp only [kc0, kc1, kc2, kc3, kc4, kc5, kc6, kc7, kc8, kc9, kc10, kc11, kc12, kc13, kc14, kc15, kc16, kc17, kc18, kc19, kc20, kc21, kc22, kc23, kc24, kc25, kc26, kc27, kc28, kc29, kc30, kc31, kc32, kc33]
    refine hX _ ?_; conv => whnf
    try simp (disch := omega) only [bg_w_id, Int.toNat_natCast, rw_land, sh_land, not_true_eq_false]
    refine s_fill (d + 2) 47 4096 (bg_SH n) _ _ rfl (by omega) _ (fun h1 f1 f2 => ?_)
    conv => whnf
    iterate 3 (refine hX _ ?_; conv => whnf)
    refine hX _ ?_; conv => whnf
    try simp (disch := omega) only [bg_w_id, Int.toNat_natCast, rw_land, sh_land, not_true_eq_false]
    refine s_fill (d + 2) 48 4096 (bg_SH n) _ _ rfl (by omega) _ (fun h2 g1 g2 => ?_)
    conv => whnf
    iterate 3 (refine hX _ ?_; conv => whnf)
    refine hX _ ?_; conv => whnf
    try simp (disch := omega) only [bg_w_id, Int.toNat_natCast, rw_land, sh_land, not_true_eq_false]
    refine s_fill (d + 2) 51 301 (bg_SH n) _ _ rfl (by omega) _ (fun h3 k1 k2 => ?_)
    conv => whnf
    iterate 3 (refine hX _ ?_; conv => whnf)
    refine hX _ ?_; conv => whnf
    try simp (disch := omega) only [bg_w_id, Int.toNat_natCast, rw_land, sh_land, not_true_eq_false]
    refine s_fill (d + 2) 52 301 (bg_SH n) _ _ rfl (by omega) _ (fun h4 m1 m2 => ?_)
    conv => whnf
    iterate 2 (refine hX _ ?_; conv => whnf)
    have x45 : h4 46 = bg_up h 46 6 (if bg_w 4096 < bg_w (bg_shl 1 (h 22 3)) then 4096 else bg_shl 1 (h 22 3)) 46 := by
      rw [m1 46 (by omega), k1 46 (by omega), g1 46 (by omega), f1 46 (by omega)]
      rfl
    refine l1 0 (by omega) h4 (fun k hk => ?_) ?_ ?_ ?_ (fun m hm => ?_) (fun m hm => ?_) (fun m hm => ?_) (fun c' hc' => absurd hc' (by omega))
    · rw [m1 k (by omega), k1 k (by omega), g1 k (by omega), f1 k (by omega)]
      exact bg_up_ne (by omega)
    · rw [x45]; exact bg_up_nj (by decide)
    · rw [x45]; exact bg_up_nj (by decide)
    · rw [x45]; exact hsets
    · rw [m1 48 (by omega), k1 48 (by omega)]; exact g2 m (by omega) (by omega)
    · rw [m1 51 (by omega)]; exact ⟨k2 m (by omega) (by omega), m2 m (by omega) (by omega)⟩
    · left
      rw [m1 47 (by omega), k1 47 (by omega), g1 47 (by omega)]
      exact f2 m (by omega) (by omega)
  · exfalso
    (try simp (disch := omega) only [bg_w_id, Int.toNat_natCast, rw_land, sh_land, not_true_eq_false, kc0, kc1, kc2, kc3, kc4, kc5, kc6, kc7, kc8, kc9, kc10, kc11, kc12, kc13, kc14, kc15, kc16, kc17, kc18, kc19, kc20, kc21, kc22, kc23, kc24, kc25, kc26, kc27, kc28, kc29, kc30, kc31, kc32, kc33] at q4) <;> (omega)
