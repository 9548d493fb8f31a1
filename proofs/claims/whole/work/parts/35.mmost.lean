/-! judge, most, oneMore of the model -/
def ff (P : Nat → Prop) [DecidablePred P] (v : Nat → Int) (E : Int) : Nat → Nat → Int
  | 0, _ => E
  | f + 1, i => if P i then v i else ff P v E f (i + 1)
theorem ff_congr {P Q : Nat → Prop} [DecidablePred P] [DecidablePred Q] {v w : Nat → Int} {E E' : Int} (hE : E = E') : ∀ (f i : Nat), (∀ j, i ≤ j → j < i + f → (P j ↔ Q j) ∧ v j = w j) → ff P v E f i = ff Q w E' f i
  | 0, i, _ => hE
  | f + 1, i, h => by
    have ⟨h1, h2⟩ := h i (Nat.le_refl _) (by omega)
    have ih := ff_congr hE f (i + 1) (fun j a b => h j (by omega) (by omega))
    unfold ff
    by_cases c : P i
    · rw [if_pos c, if_pos (h1.mp c), h2]
    · rw [if_neg c, if_neg (fun e => c (h1.mpr e)), ih]
theorem sm_ab {n : Nat} {f : Nat → Int} {B : Int} (hf : ∀ i, i < n → -B ≤ f i ∧ f i ≤ B) : -(n * B) ≤ sm n f ∧ sm n f ≤ n * B := by
  induction n with
  | zero => simp [sm]
  | succ n ih =>
    have h1 := ih (fun i hi => hf i (by omega))
    have h2 := hf n (by omega)
    rw [sm, show (((n + 1 : Nat) : Int)) * B = n * B + B by rw [Int.natCast_add, Int.add_mul]; omega]
    omega
theorem netM_rg {h : bg_G} {k : Int} {N : Nat} (hN : N ≤ 12) (hl : ∀ p : Nat, p < 12 → 0 ≤ h 124 p ∧ h 124 p ≤ 99) : -1188 ≤ sm N (netM h k) ∧ sm N (netM h k) ≤ 1188 := by
  have := sm_ab (n := N) (f := netM h k) (B := 99) (fun i hi => by
    have := hl i (by omega)
    unfold netM
    split <;> split <;> omega)
  omega
def jdg (bear load : Nat → Int) (come : Int → Int) : Int := ff (fun p => bear p < load p) (fun p => (p : Int)) (ff (fun k => come k ≠ 0) (fun k => 100 + (k : Int)) (if come 7 < 0 then 199 else 200 + come 7) 6 1) 12 0
theorem s_mjudge (d n : Nat) (s : Int) (hs : i32 s) (h : bg_G) (ho : okM h) (hl : ∀ p : Nat, p < 12 → 0 ≤ h 124 p ∧ h 124 p ≤ 99) (Rt : bg_R) (hR1 : okS (h 117 0) (h 119 0) s → Rt (some (.inl (jdg (fun p : Nat => if (p : Int) < h 117 0 then bearM h (heldM h s) p 0 else 0) (fun p : Nat => h 124 p) (fun k => sm (h 117 0).toNat (netM h k))))) (bg_SH n, h)) (hR0 : ¬ okS (h 117 0) (h 119 0) s → Rt (some (.inl (-1))) (bg_SH n, h)) : bg_Ca bg_MS (d + 3) 144 [vR 115, vI s] (bg_SH n, h) Rt := by
  have hn := ho.1.1
  refine bg_ca (cd := cd_X9_judge) rfl rfl ?_
  intro X hX
  by_cases c1 : okS (h 117 0) (h 119 0) s
  · have hR1 := hR1 c1
    obtain ⟨br, hbr⟩ : ∃ br : Nat → Int, br = fun p : Nat => if (p : Int) < h 117 0 then bearM h (heldM h s) p 0 else 0 := ⟨_, rfl⟩
    obtain ⟨ld, hld⟩ : ∃ ld : Nat → Int, ld = fun p : Nat => h 124 p := ⟨_, rfl⟩
    obtain ⟨cm, hcm⟩ : ∃ cm : Int → Int, cm = fun k => sm (h 117 0).toNat (netM h k) := ⟨_, rfl⟩
    rw [← hbr, ← hld, ← hcm] at hR1
    have ecm : ∀ k, sm (h 117 0).toNat (netM h k) = cm k := fun k => by rw [hcm]
    have eld : ∀ p : Nat, h 124 p = ld p := fun p => by rw [hld]
    have rcm : ∀ k, -1188 ≤ cm k ∧ cm k ≤ 1188 := fun k => by rw [← ecm]; exact netM_rg (by omega) hl
    have rld : ∀ p : Nat, p < 12 → 0 ≤ ld p ∧ ld p ≤ 99 := fun p hp => by rw [← eld]; exact hl p hp
    have hbM : ∀ p : Nat, p < 12 → 0 ≤ bearM h (heldM h s) p 0 ∧ bearM h (heldM h s) p 0 ≤ 100 := fun p hp => bearM_rg ho hp (by omega)
    have l2 : ∀ k, k ≤ 7 → 1 ≤ k → ∀ j2 : Option bg_V, Rt (some (.inl (ff (fun k => cm k ≠ 0) (fun k => 100 + (k : Int)) (if cm 7 < 0 then 199 else 200 + cm 7) (7 - k) k))) (bg_SH n, h) → X (62, [oR 115, oI s, j2, oI (k : Int)], [], (bg_SH n, h), (0, 0)) := by
      refine lp_up 7 _ ?_ (fun k hk ih => ?_)
      · intro _ j2 hR
        have r7 := rcm 7
        have hR : Rt (some (.inl (if cm 7 < 0 then 199 else 200 + cm 7))) (bg_SH n, h) := hR
        iterate 2 (refine hX _ ?_; conv => whnf)
        refine hX _ ?_; conv => whnf
        refine ⟨fun q65 => ?_, fun q65 => ?_⟩
        · try simp (disch := omega) only [bg_w_id, Int.toNat_natCast, rw_land, sh_land, not_true_eq_false, kc0, kc1, kc2, kc3, kc4, kc5, kc6, kc7, kc8, kc9, kc10, kc11, kc12, kc13, kc14, kc15, kc16, kc17, kc18, kc19, kc20, kc21, kc22, kc23, kc24, kc25, kc26, kc27, kc28, kc29, kc30, kc31, kc32, kc33] at q65
          iterate 2 (refine hX _ ?_; conv => whnf)
          refine hX _ ?_; conv => whnf
          try simp (disch := omega) only [bg_w_id, Int.toNat_natCast, rw_land, sh_land, not_true_eq_false]
          refine s_mcomeTo (d + 1) n 7 (by omega) h ho _ ?_
          rw [ecm]
          conv => whnf
          refine hX _ ?_; conv => whnf
          refine ⟨fun q93 => ?_, fun q93 => ?_⟩
          · try simp (disch := omega) only [bg_w_id, Int.toNat_natCast, rw_land, sh_land, not_true_eq_false, kc0, kc1, kc2, kc3, kc4, kc5, kc6, kc7, kc8, kc9, kc10, kc11, kc12, kc13, kc14, kc15, kc16, kc17, kc18, kc19, kc20, kc21, kc22, kc23, kc24, kc25, kc26, kc27, kc28, kc29, kc30, kc31, kc32, kc33] at q93
            iterate 3 (refine hX _ ?_; conv => whnf)
            refine hX _ ?_; conv => whnf
            try simp (disch := omega) only [bg_w_id, Int.toNat_natCast, rw_land, sh_land, not_true_eq_false]
            refine s_mcomeTo (d + 1) n 7 (by omega) h ho _ ?_
            rw [ecm]
            conv => whnf
            refine hX _ ?_; conv => whnf
            refine hX _ ?_; conv => whnf
            first
            | (rw [if_neg (by omega)] at hR; exact hR)
            | (rw [if_pos (by omega)] at hR; exact hR)
          · try simp (disch := omega) only [bg_w_id, Int.toNat_natCast, rw_land, sh_land, not_true_eq_false, kc0, kc1, kc2, kc3, kc4, kc5, kc6, kc7, kc8, kc9, kc10, kc11, kc12, kc13, kc14, kc15, kc16, kc17, kc18, kc19, kc20, kc21, kc22, kc23, kc24, kc25, kc26, kc27, kc28, kc29, kc30, kc31, kc32, kc33] at q93
            iterate 2 (refine hX _ ?_; conv => whnf)
            refine hX _ ?_; conv => whnf
            first
            | (rw [if_neg (by omega)] at hR; exact hR)
            | (rw [if_pos (by omega)] at hR; exact hR)
        · exfalso
          (try simp (disch := omega) only [bg_w_id, Int.toNat_natCast, rw_land, sh_land, not_true_eq_false, kc0, kc1, kc2, kc3, kc4, kc5, kc6, kc7, kc8, kc9, kc10, kc11, kc12, kc13, kc14, kc15, kc16, kc17, kc18, kc19, kc20, kc21, kc22, kc23, kc24, kc25, kc26, kc27, kc28, kc29, kc30, kc31, kc32, kc33] at q65) <;> (omega)
      · intro h1 j2 hR
        have rk := rcm k
        rw [show 7 - k = (7 - (k + 1)) + 1 by omega] at hR
        unfold ff at hR
        iterate 2 (refine hX _ ?_; conv => whnf)
        refine hX _ ?_; conv => whnf
        refine ⟨fun q65 => ?_, fun q65 => ?_⟩
        · exfalso
          (try simp (disch := omega) only [bg_w_id, Int.toNat_natCast, rw_land, sh_land, not_true_eq_false, kc0, kc1, kc2, kc3, kc4, kc5, kc6, kc7, kc8, kc9, kc10, kc11, kc12, kc13, kc14, kc15, kc16, kc17, kc18, kc19, kc20, kc21, kc22, kc23, kc24, kc25, kc26, kc27, kc28, kc29, kc30, kc31, kc32, kc33] at q65) <;> (omega)
        · try simp (disch := omega) only [bg_w_id, Int.toNat_natCast, rw_land, sh_land, not_true_eq_false, kc0, kc1, kc2, kc3, kc4, kc5, kc6, kc7, kc8, kc9, kc10, kc11, kc12, kc13, kc14, kc15, kc16, kc17, kc18, kc19, kc20, kc21, kc22, kc23, kc24, kc25, kc26, kc27, kc28, kc29, kc30, kc31, kc32, kc33] at q65
          iterate 2 (refine hX _ ?_; conv => whnf)
          refine hX _ ?_; conv => whnf
          try simp (disch := omega) only [bg_w_id, Int.toNat_natCast, rw_land, sh_land, not_true_eq_false]
          refine s_mcomeTo (d + 1) n k (by omega) h ho _ ?_
          rw [ecm]
          conv => whnf
          refine hX _ ?_; conv => whnf
          refine ⟨fun q73 => ?_, fun q73 => ?_⟩
          · try simp (disch := omega) only [bg_w_id, Int.toNat_natCast, rw_land, sh_land, not_true_eq_false, kc0, kc1, kc2, kc3, kc4, kc5, kc6, kc7, kc8, kc9, kc10, kc11, kc12, kc13, kc14, kc15, kc16, kc17, kc18, kc19, kc20, kc21, kc22, kc23, kc24, kc25, kc26, kc27, kc28, kc29, kc30, kc31, kc32, kc33] at q73
            iterate 2 (refine hX _ ?_; conv => whnf)
            rw [if_neg (by omega)] at hR
            exact ih (by omega) _ hR
          · try simp (disch := omega) only [bg_w_id, Int.toNat_natCast, rw_land, sh_land, not_true_eq_false, kc0, kc1, kc2, kc3, kc4, kc5, kc6, kc7, kc8, kc9, kc10, kc11, kc12, kc13, kc14, kc15, kc16, kc17, kc18, kc19, kc20, kc21, kc22, kc23, kc24, kc25, kc26, kc27, kc28, kc29, kc30, kc31, kc32, kc33] at q73
            iterate 3 (refine hX _ ?_; conv => whnf)
            refine hX _ ?_; conv => whnf
            rw [if_pos q73] at hR
            exact hR
    have l1 : ∀ p, p ≤ 12 → Rt (some (.inl (ff (fun p => br p < ld p) (fun p => (p : Int)) (ff (fun k => cm k ≠ 0) (fun k => 100 + (k : Int)) (if cm 7 < 0 then 199 else 200 + cm 7) 6 1) (12 - p) p))) (bg_SH n, h) → X (18, [oR 115, oI s, oI (heldM h s), oI (p : Int)], [], (bg_SH n, h), (0, 0)) := by
      refine lp_up 12 _ ?_ (fun p hp ih => ?_)
      · intro hR
        iterate 2 (refine hX _ ?_; conv => whnf)
        refine hX _ ?_; conv => whnf
        refine ⟨fun q21 => ?_, fun q21 => ?_⟩
        · try simp (disch := omega) only [bg_w_id, Int.toNat_natCast, rw_land, sh_land, not_true_eq_false, kc0, kc1, kc2, kc3, kc4, kc5, kc6, kc7, kc8, kc9, kc10, kc11, kc12, kc13, kc14, kc15, kc16, kc17, kc18, kc19, kc20, kc21, kc22, kc23, kc24, kc25, kc26, kc27, kc28, kc29, kc30, kc31, kc32, kc33] at q21
          iterate 2 (refine hX _ ?_; conv => whnf)
          exact l2 1 (by omega) (by omega) _ hR
        · exfalso
          (try simp (disch := omega) only [bg_w_id, Int.toNat_natCast, rw_land, sh_land, not_true_eq_false, kc0, kc1, kc2, kc3, kc4, kc5, kc6, kc7, kc8, kc9, kc10, kc11, kc12, kc13, kc14, kc15, kc16, kc17, kc18, kc19, kc20, kc21, kc22, kc23, kc24, kc25, kc26, kc27, kc28, kc29, kc30, kc31, kc32, kc33] at q21) <;> (omega)
      · intro hR
        have rl := rld p hp
        have rb := hbM p hp
        rw [show 12 - p = (12 - (p + 1)) + 1 by omega] at hR
        unfold ff at hR
        by_cases c2 : 0 ≤ (p : Int) ∧ (p : Int) < h 117 0
        · have eb : br p = bearM h (heldM h s) p 0 := by rw [hbr]; exact if_pos c2.2
          iterate 2 (refine hX _ ?_; conv => whnf)
          refine hX _ ?_; conv => whnf
          refine ⟨fun q21 => ?_, fun q21 => ?_⟩
          · exfalso
            (try simp (disch := omega) only [bg_w_id, Int.toNat_natCast, rw_land, sh_land, not_true_eq_false, eld, kc0, kc1, kc2, kc3, kc4, kc5, kc6, kc7, kc8, kc9, kc10, kc11, kc12, kc13, kc14, kc15, kc16, kc17, kc18, kc19, kc20, kc21, kc22, kc23, kc24, kc25, kc26, kc27, kc28, kc29, kc30, kc31, kc32, kc33] at q21) <;> (omega)
          · try simp (disch := omega) only [bg_w_id, Int.toNat_natCast, rw_land, sh_land, not_true_eq_false, eld, kc0, kc1, kc2, kc3, kc4, kc5, kc6, kc7, kc8, kc9, kc10, kc11, kc12, kc13, kc14, kc15, kc16, kc17, kc18, kc19, kc20, kc21, kc22, kc23, kc24, kc25, kc26, kc27, kc28, kc29, kc30, kc31, kc32, kc33] at q21
            iterate 2 (refine hX _ ?_; conv => whnf)
            refine hX _ ?_; conv => whnf
            try simp (disch := omega) only [bg_w_id, Int.toNat_natCast, rw_land, sh_land, not_true_eq_false, eld]
            refine s_ip_t d _ _ _ _ (by omega) hn c2 ?_
            conv => whnf
            refine hX _ ?_; conv => whnf
            refine ⟨fun q29 => ?_, fun q29 => ?_⟩
            · exfalso
              (try simp (disch := omega) only [bg_w_id, Int.toNat_natCast, rw_land, sh_land, not_true_eq_false, eld, kc0, kc1, kc2, kc3, kc4, kc5, kc6, kc7, kc8, kc9, kc10, kc11, kc12, kc13, kc14, kc15, kc16, kc17, kc18, kc19, kc20, kc21, kc22, kc23, kc24, kc25, kc26, kc27, kc28, kc29, kc30, kc31, kc32, kc33] at q29) <;> (omega)
            · try simp (disch := omega) only [bg_w_id, Int.toNat_natCast, rw_land, sh_land, not_true_eq_false, eld, kc0, kc1, kc2, kc3, kc4, kc5, kc6, kc7, kc8, kc9, kc10, kc11, kc12, kc13, kc14, kc15, kc16, kc17, kc18, kc19, kc20, kc21, kc22, kc23, kc24, kc25, kc26, kc27, kc28, kc29, kc30, kc31, kc32, kc33] at q29
              iterate 4 (refine hX _ ?_; conv => whnf)
              refine hX _ ?_; conv => whnf
              try simp (disch := omega) only [bg_w_id, Int.toNat_natCast, rw_land, sh_land, not_true_eq_false, eld]
              refine s_mbearsWith d _ _ (by omega) _ _ _ _ ?_
              rw [← eb]
              conv => whnf
              iterate 4 (refine hX _ ?_; conv => whnf)
              refine hX _ ?_; conv => whnf
              try (simp (disch := omega) only [bg_w_id, Int.toNat_natCast, rw_land, sh_land, not_true_eq_false, eld]; try conv => whnf)
              refine ⟨by first | omega | (simp (disch := omega) only [bg_w_id, Int.toNat_natCast, rw_land, sh_land, not_true_eq_false, eld]; omega), ?_⟩
              refine hX _ ?_; conv => whnf
              refine ⟨fun q49 => ?_, fun q49 => ?_⟩
              · try simp (disch := omega) only [bg_w_id, Int.toNat_natCast, rw_land, sh_land, not_true_eq_false, eld, kc0, kc1, kc2, kc3, kc4, kc5, kc6, kc7, kc8, kc9, kc10, kc11, kc12, kc13, kc14, kc15, kc16, kc17, kc18, kc19, kc20, kc21, kc22, kc23, kc24, kc25, kc26, kc27, kc28, kc29, kc30, kc31, kc32, kc33] at q49
                iterate 2 (refine hX _ ?_; conv => whnf)
                rw [if_neg (by omega)] at hR
                exact ih hR
              · try simp (disch := omega) only [bg_w_id, Int.toNat_natCast, rw_land, sh_land, not_true_eq_false, eld, kc0, kc1, kc2, kc3, kc4, kc5, kc6, kc7, kc8, kc9, kc10, kc11, kc12, kc13, kc14, kc15, kc16, kc17, kc18, kc19, kc20, kc21, kc22, kc23, kc24, kc25, kc26, kc27, kc28, kc29, kc30, kc31, kc32, kc33] at q49
                refine hX _ ?_; conv => whnf
                refine hX _ ?_; conv => whnf
                rw [if_pos (by omega)] at hR
                exact hR
        · have eb : br p = 0 := by rw [hbr]; exact if_neg (by omega)
          iterate 2 (refine hX _ ?_; conv => whnf)
          refine hX _ ?_; conv => whnf
          refine ⟨fun q21 => ?_, fun q21 => ?_⟩
          · exfalso
            (try simp (disch := omega) only [bg_w_id, Int.toNat_natCast, rw_land, sh_land, not_true_eq_false, eld, kc0, kc1, kc2, kc3, kc4, kc5, kc6, kc7, kc8, kc9, kc10, kc11, kc12, kc13, kc14, kc15, kc16, kc17, kc18, kc19, kc20, kc21, kc22, kc23, kc24, kc25, kc26, kc27, kc28, kc29, kc30, kc31, kc32, kc33] at q21) <;> (omega)
          · try simp (disch := omega) only [bg_w_id, Int.toNat_natCast, rw_land, sh_land, not_true_eq_false, eld, kc0, kc1, kc2, kc3, kc4, kc5, kc6, kc7, kc8, kc9, kc10, kc11, kc12, kc13, kc14, kc15, kc16, kc17, kc18, kc19, kc20, kc21, kc22, kc23, kc24, kc25, kc26, kc27, kc28, kc29, kc30, kc31, kc32, kc33] at q21
            iterate 2 (refine hX _ ?_; conv => whnf)
            refine hX _ ?_; conv => whnf
            try simp (disch := omega) only [bg_w_id, Int.toNat_natCast, rw_land, sh_land, not_true_eq_false, eld]
            refine s_ip_f d _ _ _ _ (by omega) hn c2 ?_
            conv => whnf
            refine hX _ ?_; conv => whnf
            refine ⟨fun q29 => ?_, fun q29 => ?_⟩
            · try simp (disch := omega) only [bg_w_id, Int.toNat_natCast, rw_land, sh_land, not_true_eq_false, eld, kc0, kc1, kc2, kc3, kc4, kc5, kc6, kc7, kc8, kc9, kc10, kc11, kc12, kc13, kc14, kc15, kc16, kc17, kc18, kc19, kc20, kc21, kc22, kc23, kc24, kc25, kc26, kc27, kc28, kc29, kc30, kc31, kc32, kc33] at q29
              iterate 4 (refine hX _ ?_; conv => whnf)
              refine hX _ ?_; conv => whnf
              try (simp (disch := omega) only [bg_w_id, Int.toNat_natCast, rw_land, sh_land, not_true_eq_false, eld]; try conv => whnf)
              refine ⟨by first | omega | (simp (disch := omega) only [bg_w_id, Int.toNat_natCast, rw_land, sh_land, not_true_eq_false, eld]; omega), ?_⟩
              refine hX _ ?_; conv => whnf
              refine ⟨fun q49 => ?_, fun q49 => ?_⟩
              · try simp (disch := omega) only [bg_w_id, Int.toNat_natCast, rw_land, sh_land, not_true_eq_false, eld, kc0, kc1, kc2, kc3, kc4, kc5, kc6, kc7, kc8, kc9, kc10, kc11, kc12, kc13, kc14, kc15, kc16, kc17, kc18, kc19, kc20, kc21, kc22, kc23, kc24, kc25, kc26, kc27, kc28, kc29, kc30, kc31, kc32, kc33] at q49
                iterate 2 (refine hX _ ?_; conv => whnf)
                rw [if_neg (by omega)] at hR
                exact ih hR
              · try simp (disch := omega) only [bg_w_id, Int.toNat_natCast, rw_land, sh_land, not_true_eq_false, eld, kc0, kc1, kc2, kc3, kc4, kc5, kc6, kc7, kc8, kc9, kc10, kc11, kc12, kc13, kc14, kc15, kc16, kc17, kc18, kc19, kc20, kc21, kc22, kc23, kc24, kc25, kc26, kc27, kc28, kc29, kc30, kc31, kc32, kc33] at q49
                refine hX _ ?_; conv => whnf
                refine hX _ ?_; conv => whnf
                rw [if_pos (by omega)] at hR
                exact hR
            · exfalso
              (try simp (disch := omega) only [bg_w_id, Int.toNat_natCast, rw_land, sh_land, not_true_eq_false, eld, kc0, kc1, kc2, kc3, kc4, kc5, kc6, kc7, kc8, kc9, kc10, kc11, kc12, kc13, kc14, kc15, kc16, kc17, kc18, kc19, kc20, kc21, kc22, kc23, kc24, kc25, kc26, kc27, kc28, kc29, kc30, kc31, kc32, kc33] at q29) <;> (omega)
    iterate 2 (refine hX _ ?_; conv => whnf)
    refine hX _ ?_; conv => whnf
    try simp (disch := omega) only [bg_w_id, Int.toNat_natCast, rw_land, sh_land, not_true_eq_false]
    refine s_ap_t (d + 1) _ _ _ _ hs c1 ?_
    conv => whnf
    refine hX _ ?_; conv => whnf
    refine ⟨fun q5 => ?_, fun q5 => ?_⟩
    · try simp (disch := omega) only [bg_w_id, Int.toNat_natCast, rw_land, sh_land, not_true_eq_false, kc0, kc1, kc2, kc3, kc4, kc5, kc6, kc7, kc8, kc9, kc10, kc11, kc12, kc13, kc14, kc15, kc16, kc17, kc18, kc19, kc20, kc21, kc22, kc23, kc24, kc25, kc26, kc27, kc28, kc29, kc30, kc31, kc32, kc33] at q5
      iterate 2 (refine hX _ ?_; conv => whnf)
      refine hX _ ?_; conv => whnf
      try simp (disch := omega) only [bg_w_id, Int.toNat_natCast, rw_land, sh_land, not_true_eq_false]
      refine s_mheldBy d _ _ _ _ ?_
      conv => whnf
      iterate 3 (refine hX _ ?_; conv => whnf)
      exact l1 0 (by omega) hR1
    · exfalso
      (try simp (disch := omega) only [bg_w_id, Int.toNat_natCast, rw_land, sh_land, not_true_eq_false, kc0, kc1, kc2, kc3, kc4, kc5, kc6, kc7, kc8, kc9, kc10, kc11, kc12, kc13, kc14, kc15, kc16, kc17, kc18, kc19, kc20, kc21, kc22, kc23, kc24, kc25, kc26, kc27, kc28, kc29, kc30, kc31, kc32, kc33] at q5) <;> (omega)
  · iterate 2 (refine hX _ ?_; conv => whnf)
    refine hX _ ?_; conv => whnf
    try simp (disch := omega) only [bg_w_id, Int.toNat_natCast, rw_land, sh_land, not_true_eq_false]
    refine s_ap_f (d + 1) _ _ _ _ hs c1 ?_
    conv => whnf
    refine hX _ ?_; conv => whnf
    refine ⟨fun q5 => ?_, fun q5 => ?_⟩
    · exfalso
      (try simp (disch := omega) only [bg_w_id, Int.toNat_natCast, rw_land, sh_land, not_true_eq_false, kc0, kc1, kc2, kc3, kc4, kc5, kc6, kc7, kc8, kc9, kc10, kc11, kc12, kc13, kc14, kc15, kc16, kc17, kc18, kc19, kc20, kc21, kc22, kc23, kc24, kc25, kc26, kc27, kc28, kc29, kc30, kc31, kc32, kc33] at q5) <;> (omega)
    · try simp (disch := omega) only [bg_w_id, Int.toNat_natCast, rw_land, sh_land, not_true_eq_false, kc0, kc1, kc2, kc3, kc4, kc5, kc6, kc7, kc8, kc9, kc10, kc11, kc12, kc13, kc14, kc15, kc16, kc17, kc18, kc19, kc20, kc21, kc22, kc23, kc24, kc25, kc26, kc27, kc28, kc29, kc30, kc31, kc32, kc33] at q5
      refine hX _ ?_; conv => whnf
      refine hX _ ?_; conv => whnf
      exact hR0 c1
/-- the model's least cut -/
def mcM (h : bg_G) (held one : Int) : Int × Int := mcT (h 117 0).toNat (fun p => h 118 (7 * p)) (fun p => h 118 (7 * p + 1)) (brM h held one)
theorem mcM_fr {h h' : bg_G} {held one : Int} (e1 : h' 117 = h 117) (e2 : h' 118 = h 118) : mcM h' held one = mcM h held one := by
  unfold mcM
  rw [e1, e2]
  congr 1
  funext p
  exact bearM_fr e2
/-- the model's flow, as the least cut -/
theorem s_mflow2 (d n : Nat) (held one : Int) (h : bg_G) (ho : okM h) (h1 : -4 ≤ one ∧ one ≤ 12) (Rt : bg_R) (hR : ∀ (h' : bg_G), (∀ k, k ≠ 115 → k ≠ 130 → k ≠ 131 → k ≠ 132 → h' k = h k) → (∀ j, j ≠ 23 → h' 115 j = h 115 j) → h' 115 23 = (mcM h held one).2 → (0 ≤ (mcM h held one).1 ∧ (mcM h held one).1 ≤ 1200) → (0 ≤ (mcM h held one).2 ∧ (mcM h held one).2 < 256) → Rt (some (.inl (mcM h held one).1)) (bg_SH n, h')) : bg_Ca bg_MS (d + 3) 139 [vR 115, vI held, vI one] (bg_SH n, h) Rt := by
  have hn := ho.1.1
  refine s_mflow d n (h 117 0).toNat held one h ho (by omega) h1 Rt (fun h' S F f1 f2 f3 f4 f5 f6 => ?_)
  have e := minM_mcT f4 f6
  have e : mcM h held one = (F, (S : Int)) := e
  have hS := f4.1
  have := hR h' f1 f2 (by rw [e]; exact f3) (by rw [e]; exact ⟨f5, f6⟩) (by rw [e]; show 0 ≤ (S : Int) ∧ (S : Int) < 256; omega)
  rw [e] at this
  exact this
theorem s_moneMore (d n : Nat) (s p : Int) (hs : i32 s) (hp : i32 p) (h : bg_G) (ho : okM h) (Rt : bg_R) (hR1 : okS (h 117 0) (h 119 0) s → (0 ≤ p ∧ p < h 117 0) → ∀ h' : bg_G, (∀ k, k ≠ 115 → k ≠ 130 → k ≠ 131 → k ≠ 132 → h' k = h k) → (∀ j, j ≠ 23 → h' 115 j = h 115 j) → Rt (some (.inl ((mcM h (heldM h s) p).1 - (mcM h (heldM h s) (-4)).1))) (bg_SH n, h')) (hR0 : ¬ (okS (h 117 0) (h 119 0) s ∧ (0 ≤ p ∧ p < h 117 0)) → Rt (some (.inl (-1))) (bg_SH n, h)) : bg_Ca bg_MS (d + 4) 150 [vR 115, vI s, vI p] (bg_SH n, h) Rt := by
  have hn := ho.1.1
  refine bg_ca (cd := cd_X9_oneMore) rfl rfl ?_
  intro X hX
  by_cases c1 : okS (h 117 0) (h 119 0) s
  · by_cases c2 : 0 ≤ p ∧ p < h 117 0
    · have hR1 := hR1 c1 c2
      iterate 2 (refine hX _ ?_; conv => whnf)
      refine hX _ ?_; conv => whnf
      try simp (disch := omega) only [bg_w_id, Int.toNat_natCast, rw_land, sh_land, not_true_eq_false]
      refine s_ap_t (d + 2) _ _ _ _ hs c1 ?_
      conv => whnf
      refine hX _ ?_; conv => whnf
      refine ⟨fun q5 => ?_, fun q5 => ?_⟩
      · exfalso
        (try simp (disch := omega) only [bg_w_id, Int.toNat_natCast, rw_land, sh_land, not_true_eq_false, kc0, kc1, kc2, kc3, kc4, kc5, kc6, kc7, kc8, kc9, kc10, kc11, kc12, kc13, kc14, kc15, kc16, kc17, kc18, kc19, kc20, kc21, kc22, kc23, kc24, kc25, kc26, kc27, kc28, kc29, kc30, kc31, kc32, kc33] at q5) <;> (omega)
      · try simp (disch := omega) only [bg_w_id, Int.toNat_natCast, rw_land, sh_land, not_true_eq_false, kc0, kc1, kc2, kc3, kc4, kc5, kc6, kc7, kc8, kc9, kc10, kc11, kc12, kc13, kc14, kc15, kc16, kc17, kc18, kc19, kc20, kc21, kc22, kc23, kc24, kc25, kc26, kc27, kc28, kc29, kc30, kc31, kc32, kc33] at q5
        iterate 2 (refine hX _ ?_; conv => whnf)
        refine hX _ ?_; conv => whnf
        try simp (disch := omega) only [bg_w_id, Int.toNat_natCast, rw_land, sh_land, not_true_eq_false]
        refine s_ip_t (d + 1) _ _ _ _ hp hn c2 ?_
        conv => whnf
        refine hX _ ?_; conv => whnf
        refine ⟨fun q13 => ?_, fun q13 => ?_⟩
        · try simp (disch := omega) only [bg_w_id, Int.toNat_natCast, rw_land, sh_land, not_true_eq_false, kc0, kc1, kc2, kc3, kc4, kc5, kc6, kc7, kc8, kc9, kc10, kc11, kc12, kc13, kc14, kc15, kc16, kc17, kc18, kc19, kc20, kc21, kc22, kc23, kc24, kc25, kc26, kc27, kc28, kc29, kc30, kc31, kc32, kc33] at q13
          iterate 2 (refine hX _ ?_; conv => whnf)
          refine hX _ ?_; conv => whnf
          try simp (disch := omega) only [bg_w_id, Int.toNat_natCast, rw_land, sh_land, not_true_eq_false]
          refine s_mheldBy (d + 1) _ _ _ _ ?_
          conv => whnf
          iterate 4 (refine hX _ ?_; conv => whnf)
          refine hX _ ?_; conv => whnf
          try simp (disch := omega) only [bg_w_id, Int.toNat_natCast, rw_land, sh_land, not_true_eq_false]
          refine s_mflow2 d n _ p h ho (by omega) _ (fun h' f1 f2 f3 f4 f5 => ?_)
          have e116 := f1 117 (by omega) (by omega) (by omega) (by omega)
          have e117 := f1 118 (by omega) (by omega) (by omega) (by omega)
          have ho' : okM h' := okM_fr ho e116 e117 (f1 119 (by omega) (by omega) (by omega) (by omega)) (f1 120 (by omega) (by omega) (by omega) (by omega)) (f1 121 (by omega) (by omega) (by omega) (by omega))
          conv => whnf
          iterate 5 (refine hX _ ?_; conv => whnf)
          refine hX _ ?_; conv => whnf
          try simp (disch := omega) only [bg_w_id, Int.toNat_natCast, rw_land, sh_land, not_true_eq_false]
          refine s_mflow2 d n _ (-4) h' ho' (by omega) _ (fun h2 g1 g2 g3 g4 g5 => ?_)
          rw [mcM_fr e116 e117]
          conv => whnf
          refine hX _ ?_; conv => whnf
          refine hX _ ?_; conv => whnf
          refine hR1 h2 (fun k a1 a2 a3 a4 => ?_) (fun j hj => ?_)
          · rw [g1 k a1 a2 a3 a4]; exact f1 k a1 a2 a3 a4
          · rw [g2 j hj]; exact f2 j hj
        · exfalso
          (try simp (disch := omega) only [bg_w_id, Int.toNat_natCast, rw_land, sh_land, not_true_eq_false, kc0, kc1, kc2, kc3, kc4, kc5, kc6, kc7, kc8, kc9, kc10, kc11, kc12, kc13, kc14, kc15, kc16, kc17, kc18, kc19, kc20, kc21, kc22, kc23, kc24, kc25, kc26, kc27, kc28, kc29, kc30, kc31, kc32, kc33] at q13) <;> (omega)
    · iterate 2 (refine hX _ ?_; conv => whnf)
      refine hX _ ?_; conv => whnf
      try simp (disch := omega) only [bg_w_id, Int.toNat_natCast, rw_land, sh_land, not_true_eq_false]
      refine s_ap_t (d + 2) _ _ _ _ hs c1 ?_
      conv => whnf
      refine hX _ ?_; conv => whnf
      refine ⟨fun q5 => ?_, fun q5 => ?_⟩
      · exfalso
        (try simp (disch := omega) only [bg_w_id, Int.toNat_natCast, rw_land, sh_land, not_true_eq_false, kc0, kc1, kc2, kc3, kc4, kc5, kc6, kc7, kc8, kc9, kc10, kc11, kc12, kc13, kc14, kc15, kc16, kc17, kc18, kc19, kc20, kc21, kc22, kc23, kc24, kc25, kc26, kc27, kc28, kc29, kc30, kc31, kc32, kc33] at q5) <;> (omega)
      · try simp (disch := omega) only [bg_w_id, Int.toNat_natCast, rw_land, sh_land, not_true_eq_false, kc0, kc1, kc2, kc3, kc4, kc5, kc6, kc7, kc8, kc9, kc10, kc11, kc12, kc13, kc14, kc15, kc16, kc17, kc18, kc19, kc20, kc21, kc22, kc23, kc24, kc25, kc26, kc27, kc28, kc29, kc30, kc31, kc32, kc33] at q5
        iterate 2 (refine hX _ ?_; conv => whnf)
        refine hX _ ?_; conv => whnf
        try simp (disch := omega) only [bg_w_id, Int.toNat_natCast, rw_land, sh_land, not_true_eq_false]
        refine s_ip_f (d + 1) _ _ _ _ hp hn c2 ?_
        conv => whnf
        refine hX _ ?_; conv => whnf
        refine ⟨fun q13 => ?_, fun q13 => ?_⟩
        · exfalso
          (try simp (disch := omega) only [bg_w_id, Int.toNat_natCast, rw_land, sh_land, not_true_eq_false, kc0, kc1, kc2, kc3, kc4, kc5, kc6, kc7, kc8, kc9, kc10, kc11, kc12, kc13, kc14, kc15, kc16, kc17, kc18, kc19, kc20, kc21, kc22, kc23, kc24, kc25, kc26, kc27, kc28, kc29, kc30, kc31, kc32, kc33] at q13) <;> (omega)
        · try simp (disch := omega) only [bg_w_id, Int.toNat_natCast, rw_land, sh_land, not_true_eq_false, kc0, kc1, kc2, kc3, kc4, kc5, kc6, kc7, kc8, kc9, kc10, kc11, kc12, kc13, kc14, kc15, kc16, kc17, kc18, kc19, kc20, kc21, kc22, kc23, kc24, kc25, kc26, kc27, kc28, kc29, kc30, kc31, kc32, kc33] at q13
          refine hX _ ?_; conv => whnf
          refine hX _ ?_; conv => whnf
          exact hR0 (fun e => c2 e.2)
  · iterate 2 (refine hX _ ?_; conv => whnf)
    refine hX _ ?_; conv => whnf
    try simp (disch := omega) only [bg_w_id, Int.toNat_natCast, rw_land, sh_land, not_true_eq_false]
    refine s_ap_f (d + 2) _ _ _ _ hs c1 ?_
    conv => whnf
    refine hX _ ?_; conv => whnf
    refine ⟨fun q5 => ?_, fun q5 => ?_⟩
    · try simp (disch := omega) only [bg_w_id, Int.toNat_natCast, rw_land, sh_land, not_true_eq_false, kc0, kc1, kc2, kc3, kc4, kc5, kc6, kc7, kc8, kc9, kc10, kc11, kc12, kc13, kc14, kc15, kc16, kc17, kc18, kc19, kc20, kc21, kc22, kc23, kc24, kc25, kc26, kc27, kc28, kc29, kc30, kc31, kc32, kc33] at q5
      refine hX _ ?_; conv => whnf
      refine hX _ ?_; conv => whnf
      exact hR0 (fun e => c1 e.1)
    · exfalso
      (try simp (disch := omega) only [bg_w_id, Int.toNat_natCast, rw_land, sh_land, not_true_eq_false, kc0, kc1, kc2, kc3, kc4, kc5, kc6, kc7, kc8, kc9, kc10, kc11, kc12, kc13, kc14, kc15, kc16, kc17, kc18, kc19, kc20, kc21, kc22, kc23, kc24, kc25, kc26, kc27, kc28, kc29, kc30, kc31, kc32, kc33] at q5) <;> (omega)
/-- the paths that go out of a set of places: model -/
def outM (h : bg_G) (S : Int) : Int := fo (h 117 0).toNat (fun p a => bg_or a (if bt S (h 118 (7 * p)) = 1 ∧ bt S (h 118 (7 * p + 1)) = 0 then bg_shl 1 p else 0)) 0
theorem s_mmost (d n : Nat) (s w : Int) (hs : i32 s) (hw : i32 w) (h : bg_G) (ho : okM h) (Rt : bg_R) (hR1 : okS (h 117 0) (h 119 0) s → (0 ≤ w ∧ w ≤ 2) → ∀ h' : bg_G, (∀ k, k ≠ 115 → k ≠ 130 → k ≠ 131 → k ≠ 132 → h' k = h k) → (∀ j, j ≠ 23 → h' 115 j = h 115 j) → Rt (some (.inl (if w = 0 then (mcM h (heldM h s) (-4)).1 else if w = 1 then (mcM h (heldM h s) (-4)).2 else outM h (mcM h (heldM h s) (-4)).2))) (bg_SH n, h')) (hR0 : ¬ (okS (h 117 0) (h 119 0) s ∧ (0 ≤ w ∧ w ≤ 2)) → Rt (some (.inl (-1))) (bg_SH n, h)) : bg_Ca bg_MS (d + 4) 141 [vR 115, vI s, vI w] (bg_SH n, h) Rt := by
  have hn := ho.1.1
  have hrow := ho.2.1
  refine bg_ca (cd := cd_X9_most) rfl rfl ?_
  intro X hX
  by_cases c1 : okS (h 117 0) (h 119 0) s
  · by_cases c2 : 0 ≤ w ∧ w ≤ 2
    · have hR1 := hR1 c1 c2
      have lp : ∀ (h' : bg_G) (S : Int) (hS : h' 115 23 = S) (e116 : h' 117 = h 117) (e117 : h' 118 = h 118) (_ : Rt (some (.inl (outM h S))) (bg_SH n, h')), ∀ p, p ≤ (h 117 0).toNat → ∀ j3 : Option bg_V, X (58, [oR 115, oI s, oI w, j3, oI (fo p (fun p a => bg_or a (if bt S (h 118 (7 * p)) = 1 ∧ bt S (h 118 (7 * p + 1)) = 0 then bg_shl 1 p else 0)) 0), oI (p : Int)], [], (bg_SH n, h'), (0, 0)) := by
        intro h' S hS e116 e117 hR
        refine lp_up _ _ ?_ (fun p hp ih => ?_) <;> intro j3
        · iterate 4 (refine hX _ ?_; conv => whnf)
          refine hX _ ?_; conv => whnf
          try (simp (disch := omega) only [bg_w_id, Int.toNat_natCast, rw_land, sh_land, not_true_eq_false, e116]; try conv => whnf)
          refine ⟨by first | omega | (simp (disch := omega) only [bg_w_id, Int.toNat_natCast, rw_land, sh_land, not_true_eq_false, e116]; omega), ?_⟩
          refine hX _ ?_; conv => whnf
          refine ⟨fun q66 => ?_, fun q66 => ?_⟩
          · try simp (disch := omega) only [bg_w_id, Int.toNat_natCast, rw_land, sh_land, not_true_eq_false, e116, kc0, kc1, kc2, kc3, kc4, kc5, kc6, kc7, kc8, kc9, kc10, kc11, kc12, kc13, kc14, kc15, kc16, kc17, kc18, kc19, kc20, kc21, kc22, kc23, kc24, kc25, kc26, kc27, kc28, kc29, kc30, kc31, kc32, kc33] at q66
            refine hX _ ?_; conv => whnf
            refine hX _ ?_; conv => whnf
            exact hR
          · exfalso
            (try simp (disch := omega) only [bg_w_id, Int.toNat_natCast, rw_land, sh_land, not_true_eq_false, e116, kc0, kc1, kc2, kc3, kc4, kc5, kc6, kc7, kc8, kc9, kc10, kc11, kc12, kc13, kc14, kc15, kc16, kc17, kc18, kc19, kc20, kc21, kc22, kc23, kc24, kc25, kc26, kc27, kc28, kc29, kc30, kc31, kc32, kc33] at q66) <;> (omega)
        · have ih : ∀ j3 : Option bg_V, X (58, [oR 115, oI s, oI w, j3, oI (bg_or (fo p (fun p a => bg_or a (if bt S (h 118 (7 * p)) = 1 ∧ bt S (h 118 (7 * p + 1)) = 0 then bg_shl 1 p else 0)) 0) (if bt S (h 118 (7 * p)) = 1 ∧ bt S (h 118 (7 * p + 1)) = 0 then bg_shl 1 p else 0)), oI ((p : Int) + 1)], [], (bg_SH n, h'), (0, 0)) := ih
          iterate 4 (refine hX _ ?_; conv => whnf)
          refine hX _ ?_; conv => whnf
          try (simp (disch := omega) only [bg_w_id, Int.toNat_natCast, rw_land, sh_land, not_true_eq_false, e116, e117, hS]; try conv => whnf)
          refine ⟨by first | omega | (simp (disch := omega) only [bg_w_id, Int.toNat_natCast, rw_land, sh_land, not_true_eq_false, e116, e117, hS]; omega), ?_⟩
          refine hX _ ?_; conv => whnf
          refine ⟨fun q66 => ?_, fun q66 => ?_⟩
          · exfalso
            (try simp (disch := omega) only [bg_w_id, Int.toNat_natCast, rw_land, sh_land, not_true_eq_false, e116, e117, hS, kc0, kc1, kc2, kc3, kc4, kc5, kc6, kc7, kc8, kc9, kc10, kc11, kc12, kc13, kc14, kc15, kc16, kc17, kc18, kc19, kc20, kc21, kc22, kc23, kc24, kc25, kc26, kc27, kc28, kc29, kc30, kc31, kc32, kc33] at q66) <;> (omega)
          · try simp (disch := omega) only [bg_w_id, Int.toNat_natCast, rw_land, sh_land, not_true_eq_false, e116, e117, hS, kc0, kc1, kc2, kc3, kc4, kc5, kc6, kc7, kc8, kc9, kc10, kc11, kc12, kc13, kc14, kc15, kc16, kc17, kc18, kc19, kc20, kc21, kc22, kc23, kc24, kc25, kc26, kc27, kc28, kc29, kc30, kc31, kc32, kc33] at q66
            iterate 8 (refine hX _ ?_; conv => whnf)
            refine hX _ ?_; conv => whnf
            try (simp (disch := omega) only [bg_w_id, Int.toNat_natCast, rw_land, sh_land, not_true_eq_false, e116, e117, hS, kc0, kc1, kc2, kc3, kc4, kc5, kc6, kc7, kc8, kc9, kc10, kc11, kc12, kc13, kc14, kc15, kc16, kc17, kc18, kc19, kc20, kc21, kc22, kc23, kc24, kc25, kc26, kc27, kc28, kc29, kc30, kc31, kc32, kc33]; try conv => whnf)
            refine ⟨by first | omega | (simp (disch := omega) only [bg_w_id, Int.toNat_natCast, rw_land, sh_land, not_true_eq_false, e116, e117, hS, kc0, kc1, kc2, kc3, kc4, kc5, kc6, kc7, kc8, kc9, kc10, kc11, kc12, kc13, kc14, kc15, kc16, kc17, kc18, kc19, kc20, kc21, kc22, kc23, kc24, kc25, kc26, kc27, kc28, kc29, kc30, kc31, kc32, kc33]; omega), ?_⟩
            try simp only [kc0, kc1, kc2, kc3, kc4, kc5, kc6, kc7, kc8, kc9, kc10, kc11, kc12, kc13, kc14, kc15, kc16, kc17, kc18, kc19, kc20, kc21, kc22, kc23, kc24, kc25, kc26, kc27, kc28, kc29, kc30, kc31, kc32, kc33]
            refine hX _ ?_; conv => whnf
            try simp (disch := omega) only [bg_w_id, Int.toNat_natCast, rw_land, sh_land, not_true_eq_false, e116, e117, hS]
            refine s_has (d + 2) _ _ _ _ ?_
            conv => whnf
            refine hX _ ?_; conv => whnf
            refine ⟨fun q88 => ?_, fun q88 => ?_⟩
            · try simp (disch := omega) only [bg_w_id, Int.toNat_natCast, rw_land, sh_land, not_true_eq_false, e116, e117, hS, kc0, kc1, kc2, kc3, kc4, kc5, kc6, kc7, kc8, kc9, kc10, kc11, kc12, kc13, kc14, kc15, kc16, kc17, kc18, kc19, kc20, kc21, kc22, kc23, kc24, kc25, kc26, kc27, kc28, kc29, kc30, kc31, kc32, kc33] at q88
              rw [bt_w] at q88
              iterate 5 (refine hX _ ?_; conv => whnf)
              first
              | (rw [if_pos (by omega)] at ih; exact ih _)
              | (rw [if_neg (by omega)] at ih; exact ih _)
            · try simp (disch := omega) only [bg_w_id, Int.toNat_natCast, rw_land, sh_land, not_true_eq_false, e116, e117, hS, kc0, kc1, kc2, kc3, kc4, kc5, kc6, kc7, kc8, kc9, kc10, kc11, kc12, kc13, kc14, kc15, kc16, kc17, kc18, kc19, kc20, kc21, kc22, kc23, kc24, kc25, kc26, kc27, kc28, kc29, kc30, kc31, kc32, kc33] at q88
              rw [bt_w] at q88
              have q88 := (bt_01 S _).resolve_left q88
              iterate 9 (refine hX _ ?_; conv => whnf)
              refine hX _ ?_; conv => whnf
              try (simp (disch := omega) only [bg_w_id, Int.toNat_natCast, rw_land, sh_land, not_true_eq_false, e116, e117, hS, kc0, kc1, kc2, kc3, kc4, kc5, kc6, kc7, kc8, kc9, kc10, kc11, kc12, kc13, kc14, kc15, kc16, kc17, kc18, kc19, kc20, kc21, kc22, kc23, kc24, kc25, kc26, kc27, kc28, kc29, kc30, kc31, kc32, kc33]; try conv => whnf)
              refine ⟨by first | omega | (simp (disch := omega) only [bg_w_id, Int.toNat_natCast, rw_land, sh_land, not_true_eq_false, e116, e117, hS, kc0, kc1, kc2, kc3, kc4, kc5, kc6, kc7, kc8, kc9, kc10, kc11, kc12, kc13, kc14, kc15, kc16, kc17, kc18, kc19, kc20, kc21, kc22, kc23, kc24, kc25, kc26, kc27, kc28, kc29, kc30, kc31, kc32, kc33]; omega), ?_⟩
              try simp only [kc0, kc1, kc2, kc3, kc4, kc5, kc6, kc7, kc8, kc9, kc10, kc11, kc12, kc13, kc14, kc15, kc16, kc17, kc18, kc19, kc20, kc21, kc22, kc23, kc24, kc25, kc26, kc27, kc28, kc29, kc30, kc31, kc32, kc33]
              refine hX _ ?_; conv => whnf
              try simp (disch := omega) only [bg_w_id, Int.toNat_natCast, rw_land, sh_land, not_true_eq_false, e116, e117, hS]
              refine s_has (d + 2) _ _ _ _ ?_
              conv => whnf
              refine hX _ ?_; conv => whnf
              refine ⟨fun q110 => ?_, fun q110 => ?_⟩
              · try simp (disch := omega) only [bg_w_id, Int.toNat_natCast, rw_land, sh_land, not_true_eq_false, e116, e117, hS, kc0, kc1, kc2, kc3, kc4, kc5, kc6, kc7, kc8, kc9, kc10, kc11, kc12, kc13, kc14, kc15, kc16, kc17, kc18, kc19, kc20, kc21, kc22, kc23, kc24, kc25, kc26, kc27, kc28, kc29, kc30, kc31, kc32, kc33] at q110
                rw [bt_w] at q110
                iterate 5 (refine hX _ ?_; conv => whnf)
                first
                | (rw [if_pos (by omega)] at ih; exact ih _)
                | (rw [if_neg (by omega)] at ih; exact ih _)
              · try simp (disch := omega) only [bg_w_id, Int.toNat_natCast, rw_land, sh_land, not_true_eq_false, e116, e117, hS, kc0, kc1, kc2, kc3, kc4, kc5, kc6, kc7, kc8, kc9, kc10, kc11, kc12, kc13, kc14, kc15, kc16, kc17, kc18, kc19, kc20, kc21, kc22, kc23, kc24, kc25, kc26, kc27, kc28, kc29, kc30, kc31, kc32, kc33] at q110
                rw [bt_w] at q110
                iterate 8 (refine hX _ ?_; conv => whnf)
                first
                | (rw [if_pos (by omega)] at ih; exact ih _)
                | (rw [if_neg (by omega)] at ih; exact ih _)
      iterate 2 (refine hX _ ?_; conv => whnf)
      refine hX _ ?_; conv => whnf
      try simp (disch := omega) only [bg_w_id, Int.toNat_natCast, rw_land, sh_land, not_true_eq_false]
      refine s_ap_t (d + 2) _ _ _ _ hs c1 ?_
      conv => whnf
      refine hX _ ?_; conv => whnf
      refine ⟨fun q5 => ?_, fun q5 => ?_⟩
      · exfalso
        (try simp (disch := omega) only [bg_w_id, Int.toNat_natCast, rw_land, sh_land, not_true_eq_false, kc0, kc1, kc2, kc3, kc4, kc5, kc6, kc7, kc8, kc9, kc10, kc11, kc12, kc13, kc14, kc15, kc16, kc17, kc18, kc19, kc20, kc21, kc22, kc23, kc24, kc25, kc26, kc27, kc28, kc29, kc30, kc31, kc32, kc33] at q5) <;> (omega)
      · try simp (disch := omega) only [bg_w_id, Int.toNat_natCast, rw_land, sh_land, not_true_eq_false, kc0, kc1, kc2, kc3, kc4, kc5, kc6, kc7, kc8, kc9, kc10, kc11, kc12, kc13, kc14, kc15, kc16, kc17, kc18, kc19, kc20, kc21, kc22, kc23, kc24, kc25, kc26, kc27, kc28, kc29, kc30, kc31, kc32, kc33] at q5
        iterate 4 (refine hX _ ?_; conv => whnf)
        try simp (disch := omega) only [bg_w_id, Int.toNat_natCast, rw_land, sh_land, not_true_eq_false]
        refine hX _ ?_; conv => whnf
        try simp (disch := omega) only [bg_w_id, Int.toNat_natCast, rw_land, sh_land, not_true_eq_false]
        refine s_in_t (d + 2) _ _ _ _ _ (by omega) (by omega) (by omega) c2 ?_
        conv => whnf
        refine hX _ ?_; conv => whnf
        refine ⟨fun q17 => ?_, fun q17 => ?_⟩
        · try simp (disch := omega) only [bg_w_id, Int.toNat_natCast, rw_land, sh_land, not_true_eq_false, kc0, kc1, kc2, kc3, kc4, kc5, kc6, kc7, kc8, kc9, kc10, kc11, kc12, kc13, kc14, kc15, kc16, kc17, kc18, kc19, kc20, kc21, kc22, kc23, kc24, kc25, kc26, kc27, kc28, kc29, kc30, kc31, kc32, kc33] at q17
          iterate 3 (refine hX _ ?_; conv => whnf)
          refine hX _ ?_; conv => whnf
          try simp (disch := omega) only [bg_w_id, Int.toNat_natCast, rw_land, sh_land, not_true_eq_false]
          refine s_mheldBy (d + 1) _ _ _ _ ?_
          conv => whnf
          refine hX _ ?_; conv => whnf
          refine hX _ ?_; conv => whnf
          try simp (disch := omega) only [bg_w_id, Int.toNat_natCast, rw_land, sh_land, not_true_eq_false]
          refine s_mflow2 d n _ (-4) h ho (by omega) _ (fun h' f1 f2 f3 f4 f5 => ?_)
          have e116 := f1 117 (by omega) (by omega) (by omega) (by omega)
          have e117 := f1 118 (by omega) (by omega) (by omega) (by omega)
          have hR1 := hR1 h' f1 f2
          conv => whnf
          iterate 3 (refine hX _ ?_; conv => whnf)
          refine hX _ ?_; conv => whnf
          refine ⟨fun q36 => ?_, fun q36 => ?_⟩
          · try simp (disch := omega) only [bg_w_id, Int.toNat_natCast, rw_land, sh_land, not_true_eq_false, kc0, kc1, kc2, kc3, kc4, kc5, kc6, kc7, kc8, kc9, kc10, kc11, kc12, kc13, kc14, kc15, kc16, kc17, kc18, kc19, kc20, kc21, kc22, kc23, kc24, kc25, kc26, kc27, kc28, kc29, kc30, kc31, kc32, kc33] at q36
            iterate 4 (refine hX _ ?_; conv => whnf)
            rw [if_neg (by omega), if_neg (by omega)] at hR1
            exact lp h' _ f3 e116 e117 hR1 0 (by omega) _
          · try simp (disch := omega) only [bg_w_id, Int.toNat_natCast, rw_land, sh_land, not_true_eq_false, kc0, kc1, kc2, kc3, kc4, kc5, kc6, kc7, kc8, kc9, kc10, kc11, kc12, kc13, kc14, kc15, kc16, kc17, kc18, kc19, kc20, kc21, kc22, kc23, kc24, kc25, kc26, kc27, kc28, kc29, kc30, kc31, kc32, kc33] at q36
            refine hX _ ?_; conv => whnf
            refine hX _ ?_; conv => whnf
            refine ⟨fun q40 => ?_, fun q40 => ?_⟩
            · try simp (disch := omega) only [bg_w_id, Int.toNat_natCast, rw_land, sh_land, not_true_eq_false, kc0, kc1, kc2, kc3, kc4, kc5, kc6, kc7, kc8, kc9, kc10, kc11, kc12, kc13, kc14, kc15, kc16, kc17, kc18, kc19, kc20, kc21, kc22, kc23, kc24, kc25, kc26, kc27, kc28, kc29, kc30, kc31, kc32, kc33] at q40
              iterate 2 (refine hX _ ?_; conv => whnf)
              try simp only [kc0, kc1, kc2, kc3, kc4, kc5, kc6, kc7, kc8, kc9, kc10, kc11, kc12, kc13, kc14, kc15, kc16, kc17, kc18, kc19, kc20, kc21, kc22, kc23, kc24, kc25, kc26, kc27, kc28, kc29, kc30, kc31, kc32, kc33]
              refine hX _ ?_; conv => whnf
              first
              | (rw [if_pos (by omega)] at hR1; exact hR1)
              | (rw [if_neg (by omega), if_pos (by omega)] at hR1; simp only [kc23, f3]; exact hR1)
            · try simp (disch := omega) only [bg_w_id, Int.toNat_natCast, rw_land, sh_land, not_true_eq_false, kc0, kc1, kc2, kc3, kc4, kc5, kc6, kc7, kc8, kc9, kc10, kc11, kc12, kc13, kc14, kc15, kc16, kc17, kc18, kc19, kc20, kc21, kc22, kc23, kc24, kc25, kc26, kc27, kc28, kc29, kc30, kc31, kc32, kc33] at q40
              iterate 2 (refine hX _ ?_; conv => whnf)
              refine hX _ ?_; conv => whnf
              first
              | (rw [if_pos (by omega)] at hR1; exact hR1)
              | (rw [if_neg (by omega), if_pos (by omega)] at hR1; simp only [kc23, f3]; exact hR1)
        · exfalso
          (try simp (disch := omega) only [bg_w_id, Int.toNat_natCast, rw_land, sh_land, not_true_eq_false, kc0, kc1, kc2, kc3, kc4, kc5, kc6, kc7, kc8, kc9, kc10, kc11, kc12, kc13, kc14, kc15, kc16, kc17, kc18, kc19, kc20, kc21, kc22, kc23, kc24, kc25, kc26, kc27, kc28, kc29, kc30, kc31, kc32, kc33] at q17) <;> (omega)
    · iterate 2 (refine hX _ ?_; conv => whnf)
      refine hX _ ?_; conv => whnf
      try simp (disch := omega) only [bg_w_id, Int.toNat_natCast, rw_land, sh_land, not_true_eq_false]
      refine s_ap_t (d + 2) _ _ _ _ hs c1 ?_
      conv => whnf
      refine hX _ ?_; conv => whnf
      refine ⟨fun q5 => ?_, fun q5 => ?_⟩
      · exfalso
        (try simp (disch := omega) only [bg_w_id, Int.toNat_natCast, rw_land, sh_land, not_true_eq_false, kc0, kc1, kc2, kc3, kc4, kc5, kc6, kc7, kc8, kc9, kc10, kc11, kc12, kc13, kc14, kc15, kc16, kc17, kc18, kc19, kc20, kc21, kc22, kc23, kc24, kc25, kc26, kc27, kc28, kc29, kc30, kc31, kc32, kc33] at q5) <;> (omega)
      · try simp (disch := omega) only [bg_w_id, Int.toNat_natCast, rw_land, sh_land, not_true_eq_false, kc0, kc1, kc2, kc3, kc4, kc5, kc6, kc7, kc8, kc9, kc10, kc11, kc12, kc13, kc14, kc15, kc16, kc17, kc18, kc19, kc20, kc21, kc22, kc23, kc24, kc25, kc26, kc27, kc28, kc29, kc30, kc31, kc32, kc33] at q5
        iterate 4 (refine hX _ ?_; conv => whnf)
        try simp (disch := omega) only [bg_w_id, Int.toNat_natCast, rw_land, sh_land, not_true_eq_false]
        refine hX _ ?_; conv => whnf
        try simp (disch := omega) only [bg_w_id, Int.toNat_natCast, rw_land, sh_land, not_true_eq_false]
        refine s_in_f (d + 2) _ _ _ _ _ (by omega) (by omega) (by omega) c2 ?_
        conv => whnf
        refine hX _ ?_; conv => whnf
        refine ⟨fun q17 => ?_, fun q17 => ?_⟩
        · exfalso
          (try simp (disch := omega) only [bg_w_id, Int.toNat_natCast, rw_land, sh_land, not_true_eq_false, kc0, kc1, kc2, kc3, kc4, kc5, kc6, kc7, kc8, kc9, kc10, kc11, kc12, kc13, kc14, kc15, kc16, kc17, kc18, kc19, kc20, kc21, kc22, kc23, kc24, kc25, kc26, kc27, kc28, kc29, kc30, kc31, kc32, kc33] at q17) <;> (omega)
        · try simp (disch := omega) only [bg_w_id, Int.toNat_natCast, rw_land, sh_land, not_true_eq_false, kc0, kc1, kc2, kc3, kc4, kc5, kc6, kc7, kc8, kc9, kc10, kc11, kc12, kc13, kc14, kc15, kc16, kc17, kc18, kc19, kc20, kc21, kc22, kc23, kc24, kc25, kc26, kc27, kc28, kc29, kc30, kc31, kc32, kc33] at q17
          refine hX _ ?_; conv => whnf
          refine hX _ ?_; conv => whnf
          exact hR0 (fun e => c2 e.2)
  · iterate 2 (refine hX _ ?_; conv => whnf)
    refine hX _ ?_; conv => whnf
    try simp (disch := omega) only [bg_w_id, Int.toNat_natCast, rw_land, sh_land, not_true_eq_false]
    refine s_ap_f (d + 2) _ _ _ _ hs c1 ?_
    conv => whnf
    refine hX _ ?_; conv => whnf
    refine ⟨fun q5 => ?_, fun q5 => ?_⟩
    · try simp (disch := omega) only [bg_w_id, Int.toNat_natCast, rw_land, sh_land, not_true_eq_false, kc0, kc1, kc2, kc3, kc4, kc5, kc6, kc7, kc8, kc9, kc10, kc11, kc12, kc13, kc14, kc15, kc16, kc17, kc18, kc19, kc20, kc21, kc22, kc23, kc24, kc25, kc26, kc27, kc28, kc29, kc30, kc31, kc32, kc33] at q5
      refine hX _ ?_; conv => whnf
      refine hX _ ?_; conv => whnf
      exact hR0 (fun e => c1 e.1)
    · exfalso
      (try simp (disch := omega) only [bg_w_id, Int.toNat_natCast, rw_land, sh_land, not_true_eq_false, kc0, kc1, kc2, kc3, kc4, kc5, kc6, kc7, kc8, kc9, kc10, kc11, kc12, kc13, kc14, kc15, kc16, kc17, kc18, kc19, kc20, kc21, kc22, kc23, kc24, kc25, kc26, kc27, kc28, kc29, kc30, kc31, kc32, kc33] at q5) <;> (omega)
