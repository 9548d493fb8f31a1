theorem rem12 : ∀ x : Nat, x < 24 → bg_rem x 12 = (x % 12 : Nat) := by decide +kernel
def chOK (N : Nat) (A B : Nat → Int) (cb : Int → Int) (rk : Int → Nat) (R G : Nat → Int) (m : Int) : Nat → Int → Prop
  | 0, v => v = 0
  | k + 1, v => v = 0 ∨ (0 < v ∧ v ≤ 7 ∧ ∃ p, p < N ∧ ((cb v = p ∧ B p = v ∧ m ≤ R p ∧ rk (A p) < rk v ∧ chOK N A B cb rk R G m k (A p)) ∨ (cb v = 12 + p ∧ A p = v ∧ m ≤ G p ∧ rk (B p) < rk v ∧ chOK N A B cb rk R G m k (B p))))
theorem chOK_tr {N : Nat} {A B : Nat → Int} {cb : Int → Int} {rk : Int → Nat} {R G R' G' : Nat → Int} {m : Int} {p0 ρ : Nat} (hp0 : ρ ≤ rk (A p0) ∨ ρ ≤ rk (B p0)) (hR : ∀ p, p ≠ p0 → R' p = R p) (hG : ∀ p, p ≠ p0 → G' p = G p) : ∀ (k : Nat) (v : Int), rk v < ρ → chOK N A B cb rk R G m k v → chOK N A B cb rk R' G' m k v
  | 0, v, _, h => h
  | k + 1, v, hv, h => by
    rcases h with h | ⟨v0, v7, p, hp, h⟩
    · exact Or.inl h
    · refine Or.inr ⟨v0, v7, p, hp, ?_⟩
      rcases h with ⟨h1, h2, h3, h4, h5⟩ | ⟨h1, h2, h3, h4, h5⟩
      · have hn : p ≠ p0 := fun e => by subst e; rw [h2] at hp0; omega
        exact Or.inl ⟨h1, h2, by rw [hR p hn]; exact h3, h4, chOK_tr hp0 hR hG k _ (by omega) h5⟩
      · have hn : p ≠ p0 := fun e => by subst e; rw [h2] at hp0; omega
        exact Or.inr ⟨h1, h2, by rw [hG p hn]; exact h3, h4, chOK_tr hp0 hR hG k _ (by omega) h5⟩
/-- what comes to a place more than goes from it -/
def exv (N : Nat) (A B g : Nat → Int) (v : Int) : Int := sm N (fun p => (if B p = v then g p else 0) - (if A p = v then g p else 0))
theorem exv_up {N : Nat} {A B g g' : Nat → Int} {p0 : Nat} {δ : Int} (hp : p0 < N) (h0 : g' p0 = g p0 + δ) (h1 : ∀ p, p ≠ p0 → g' p = g p) (v : Int) : exv N A B g' v = exv N A B g v + (if B p0 = v then δ else 0) - (if A p0 = v then δ else 0) := by
  unfold exv
  induction N with
  | zero => omega
  | succ n ih =>
    rw [sm, sm]
    by_cases e : p0 = n
    · subst e
      rw [sm_congr (f := fun p => (if B p = v then g' p else 0) - (if A p = v then g' p else 0)) (g := fun p => (if B p = v then g p else 0) - (if A p = v then g p else 0)) (fun i hi => by simp only [h1 i (by omega)]), h0]
      split <;> split <;> omega
    · have := ih (by omega)
      rw [this, h1 n (by omega)]
      omega
theorem s_mpush (d n N S : Nat) (h : bg_G) (ho : okM h) (hN : (N : Int) = h 117 0) (hr : ∀ p : Nat, p < N → (0 ≤ h 130 p ∧ h 130 p ≤ 1000) ∧ (0 ≤ h 131 p ∧ h 131 p ≤ 1000)) (hS7 : bt S 7 = 1) (ht : treeM N (fun p => h 118 (7 * p)) (fun p => h 118 (7 * p + 1)) (fun p => h 130 p) (fun p => h 131 p) (h 132) S) (Rt : bg_R)
    (hR : ∀ (h' : bg_G) (m : Int), 1 ≤ m → m ≤ 100000 → (∀ k, k ≠ 130 → k ≠ 131 → h' k = h k) → (∀ p : Nat, p < N → 0 ≤ h' 130 p ∧ 0 ≤ h' 131 p ∧ h' 130 p + h' 131 p = h 130 p + h 131 p) → (∀ v : Int, exv N (fun p => h 118 (7 * p)) (fun p => h 118 (7 * p + 1)) (fun p => h' 131 p) v = exv N (fun p => h 118 (7 * p)) (fun p => h 118 (7 * p + 1)) (fun p => h 131 p) v + (if v = 7 then m else 0) - (if v = 0 then m else 0)) → Rt (some (.inl m)) (bg_SH n, h')) : bg_Ca bg_MS (d + 1) 138 [vR 115] (bg_SH n, h) Rt := by
  obtain ⟨⟨hn, -⟩, hrow, -⟩ := ho
  refine bg_ca (cd := cd_X9_push) rfl rfl ?_
  intro X hX
  obtain ⟨A, hA⟩ : ∃ A : Nat → Int, A = fun p : Nat => h 118 (7 * p) := ⟨_, rfl⟩
  obtain ⟨B, hB⟩ : ∃ B : Nat → Int, B = fun p : Nat => h 118 (7 * p + 1) := ⟨_, rfl⟩
  have eA : ∀ p : Nat, h 118 (7 * p) = A p := fun p => by rw [hA]
  have eB : ∀ p : Nat, h 118 (7 * p + 1) = B p := fun p => by rw [hB]
  have rA : ∀ p, p < N → 0 ≤ A p ∧ A p ≤ 7 := fun p hp => by have := hrow p (by omega); rw [← eA]; omega
  have rB : ∀ p, p < N → 0 ≤ B p ∧ B p ≤ 7 := fun p hp => by have := hrow p (by omega); rw [← eB]; omega
  rw [← hA, ← hB] at hR ht
  obtain ⟨rk, hrk⟩ := ht
  have L1 : ∀ (r : Nat) (v many : Int) (j3 j4 j5 : Option bg_V), rk v ≤ r → (v = 0 ∨ (0 < v ∧ v ≤ 7 ∧ bt S v = 1)) → 1 ≤ many → many ≤ 100000 → (∀ (m : Int) (j3 j4 j5 : Option bg_V), 1 ≤ m → m ≤ many → chOK N A B (h 132) rk (fun p => h 130 p) (fun p => h 131 p) m (r + 1) v → X (97, [oR 115, oI m, oI 0, j3, j4, j5], [], (bg_SH n, h), (0, 0))) → X (6, [oR 115, oI many, oI v, j3, j4, j5], [], (bg_SH n, h), (0, 0)) := by
    intro r
    induction r with
    | zero =>
      intro v many j3 j4 j5 hv hv2 hm hm2 K
      rcases hv2 with rfl | ⟨v0, v7, vs⟩
      · refine hX _ ?_; conv => whnf
        refine hX _ ?_; conv => whnf
        refine ⟨fun q7 => ?_, fun q7 => ?_⟩
        · try simp (disch := omega) only [bg_w_id, Int.toNat_natCast, rw_land, sh_land, not_true_eq_false, kc0, kc1, kc2, kc3, kc4, kc5, kc6, kc7, kc8, kc9, kc10, kc11, kc12, kc13, kc14, kc15, kc16, kc17, kc18, kc19, kc20, kc21, kc22, kc23, kc24, kc25, kc26, kc27, kc28, kc29, kc30, kc31, kc32, kc33] at q7
          exact K many _ _ _ hm (by omega) (Or.inl rfl)
        · exfalso
          (try simp (disch := omega) only [bg_w_id, Int.toNat_natCast, rw_land, sh_land, not_true_eq_false, kc0, kc1, kc2, kc3, kc4, kc5, kc6, kc7, kc8, kc9, kc10, kc11, kc12, kc13, kc14, kc15, kc16, kc17, kc18, kc19, kc20, kc21, kc22, kc23, kc24, kc25, kc26, kc27, kc28, kc29, kc30, kc31, kc32, kc33] at q7) <;> (omega)
      · obtain ⟨p, hp, hq⟩ := hrk v v0 v7 vs
        exfalso
        rcases hq with ⟨-, -, -, q, -⟩ | ⟨-, -, -, q, -⟩ <;> omega
    | succ r ihr =>
      intro v many j3 j4 j5 hv hv2 hm hm2 K
      rcases hv2 with rfl | ⟨v0, v7, vs⟩
      · refine hX _ ?_; conv => whnf
        refine hX _ ?_; conv => whnf
        refine ⟨fun q7 => ?_, fun q7 => ?_⟩
        · try simp (disch := omega) only [bg_w_id, Int.toNat_natCast, rw_land, sh_land, not_true_eq_false, kc0, kc1, kc2, kc3, kc4, kc5, kc6, kc7, kc8, kc9, kc10, kc11, kc12, kc13, kc14, kc15, kc16, kc17, kc18, kc19, kc20, kc21, kc22, kc23, kc24, kc25, kc26, kc27, kc28, kc29, kc30, kc31, kc32, kc33] at q7
          exact K many _ _ _ hm (by omega) (Or.inl rfl)
        · exfalso
          (try simp (disch := omega) only [bg_w_id, Int.toNat_natCast, rw_land, sh_land, not_true_eq_false, kc0, kc1, kc2, kc3, kc4, kc5, kc6, kc7, kc8, kc9, kc10, kc11, kc12, kc13, kc14, kc15, kc16, kc17, kc18, kc19, kc20, kc21, kc22, kc23, kc24, kc25, kc26, kc27, kc28, kc29, kc30, kc31, kc32, kc33] at q7) <;> (omega)
      · obtain ⟨p, hp, hq⟩ := hrk v v0 v7 vs
        have a1 := rA p hp
        have b1 := rB p hp
        have r1 := hr p hp
        rcases hq with ⟨x1, x2, x3, x4, x5⟩ | ⟨x1, x2, x3, x4, x5⟩
        · have x5 : 0 < h 130 p := x5
          have hrem : bg_rem (p : Int) 12 = (p : Int) := by rw [rem12 p (by omega), Nat.mod_eq_of_lt (by omega)]
          refine hX _ ?_; conv => whnf
          refine hX _ ?_; conv => whnf
          refine ⟨fun q7 => ?_, fun q7 => ?_⟩
          · exfalso
            (try simp (disch := omega) only [bg_w_id, Int.toNat_natCast, rw_land, sh_land, not_true_eq_false, x1, hrem, Int.add_zero, eA, eB, kc0, kc1, kc2, kc3, kc4, kc5, kc6, kc7, kc8, kc9, kc10, kc11, kc12, kc13, kc14, kc15, kc16, kc17, kc18, kc19, kc20, kc21, kc22, kc23, kc24, kc25, kc26, kc27, kc28, kc29, kc30, kc31, kc32, kc33] at q7) <;> (omega)
          · try simp (disch := omega) only [bg_w_id, Int.toNat_natCast, rw_land, sh_land, not_true_eq_false, x1, hrem, Int.add_zero, eA, eB, kc0, kc1, kc2, kc3, kc4, kc5, kc6, kc7, kc8, kc9, kc10, kc11, kc12, kc13, kc14, kc15, kc16, kc17, kc18, kc19, kc20, kc21, kc22, kc23, kc24, kc25, kc26, kc27, kc28, kc29, kc30, kc31, kc32, kc33] at q7
            iterate 3 (refine hX _ ?_; conv => whnf)
            refine hX _ ?_; conv => whnf
            try (simp (disch := omega) only [bg_w_id, Int.toNat_natCast, rw_land, sh_land, not_true_eq_false, x1, hrem, Int.add_zero, eA, eB]; try conv => whnf)
            refine ⟨by first | omega | (simp (disch := omega) only [bg_w_id, Int.toNat_natCast, rw_land, sh_land, not_true_eq_false, x1, hrem, Int.add_zero, eA, eB]; omega), ?_⟩
            refine hX _ ?_; conv => whnf
            refine hX _ ?_; conv => whnf
            refine ⟨by first | omega | decide | (simp (disch := omega) only [bg_w_id, Int.toNat_natCast, rw_land, sh_land, not_true_eq_false, x1, hrem, Int.add_zero, eA, eB]; omega), ?_⟩
            iterate 4 (refine hX _ ?_; conv => whnf)
            refine hX _ ?_; conv => whnf
            try (simp (disch := omega) only [bg_w_id, Int.toNat_natCast, rw_land, sh_land, not_true_eq_false, x1, hrem, Int.add_zero, eA, eB]; try conv => whnf)
            refine ⟨by first | omega | (simp (disch := omega) only [bg_w_id, Int.toNat_natCast, rw_land, sh_land, not_true_eq_false, x1, hrem, Int.add_zero, eA, eB]; omega), ?_⟩
            refine hX _ ?_; conv => whnf
            refine hX _ ?_; conv => whnf
            refine ⟨fun q28 => ?_, fun q28 => ?_⟩
            · exfalso
              (try simp (disch := omega) only [bg_w_id, Int.toNat_natCast, rw_land, sh_land, not_true_eq_false, x1, hrem, Int.add_zero, eA, eB, kc0, kc1, kc2, kc3, kc4, kc5, kc6, kc7, kc8, kc9, kc10, kc11, kc12, kc13, kc14, kc15, kc16, kc17, kc18, kc19, kc20, kc21, kc22, kc23, kc24, kc25, kc26, kc27, kc28, kc29, kc30, kc31, kc32, kc33] at q28) <;> (omega)
            · try simp (disch := omega) only [bg_w_id, Int.toNat_natCast, rw_land, sh_land, not_true_eq_false, x1, hrem, Int.add_zero, eA, eB, kc0, kc1, kc2, kc3, kc4, kc5, kc6, kc7, kc8, kc9, kc10, kc11, kc12, kc13, kc14, kc15, kc16, kc17, kc18, kc19, kc20, kc21, kc22, kc23, kc24, kc25, kc26, kc27, kc28, kc29, kc30, kc31, kc32, kc33] at q28
              iterate 4 (refine hX _ ?_; conv => whnf)
              refine hX _ ?_; conv => whnf
              refine ⟨fun q40 => ?_, fun q40 => ?_⟩
              · exfalso
                (try simp (disch := omega) only [bg_w_id, Int.toNat_natCast, rw_land, sh_land, not_true_eq_false, x1, hrem, Int.add_zero, eA, eB, kc0, kc1, kc2, kc3, kc4, kc5, kc6, kc7, kc8, kc9, kc10, kc11, kc12, kc13, kc14, kc15, kc16, kc17, kc18, kc19, kc20, kc21, kc22, kc23, kc24, kc25, kc26, kc27, kc28, kc29, kc30, kc31, kc32, kc33] at q40) <;> (omega)
              · try simp (disch := omega) only [bg_w_id, Int.toNat_natCast, rw_land, sh_land, not_true_eq_false, x1, hrem, Int.add_zero, eA, eB, kc0, kc1, kc2, kc3, kc4, kc5, kc6, kc7, kc8, kc9, kc10, kc11, kc12, kc13, kc14, kc15, kc16, kc17, kc18, kc19, kc20, kc21, kc22, kc23, kc24, kc25, kc26, kc27, kc28, kc29, kc30, kc31, kc32, kc33] at q40
                iterate 3 (refine hX _ ?_; conv => whnf)
                refine hX _ ?_; conv => whnf
                try (simp (disch := omega) only [bg_w_id, Int.toNat_natCast, rw_land, sh_land, not_true_eq_false, x1, hrem, Int.add_zero, eA, eB]; try conv => whnf)
                refine ⟨by first | omega | (simp (disch := omega) only [bg_w_id, Int.toNat_natCast, rw_land, sh_land, not_true_eq_false, x1, hrem, Int.add_zero, eA, eB]; omega), ?_⟩
                iterate 4 (refine hX _ ?_; conv => whnf)
                refine hX _ ?_; conv => whnf
                refine ⟨fun q63 => ?_, fun q63 => ?_⟩
                · try simp (disch := omega) only [bg_w_id, Int.toNat_natCast, rw_land, sh_land, not_true_eq_false, x1, hrem, Int.add_zero, eA, eB, kc0, kc1, kc2, kc3, kc4, kc5, kc6, kc7, kc8, kc9, kc10, kc11, kc12, kc13, kc14, kc15, kc16, kc17, kc18, kc19, kc20, kc21, kc22, kc23, kc24, kc25, kc26, kc27, kc28, kc29, kc30, kc31, kc32, kc33] at q63
                  iterate 8 (refine hX _ ?_; conv => whnf)
                  refine hX _ ?_; conv => whnf
                  refine ⟨fun q83 => ?_, fun q83 => ?_⟩
                  · exfalso
                    (try simp (disch := omega) only [bg_w_id, Int.toNat_natCast, rw_land, sh_land, not_true_eq_false, x1, hrem, Int.add_zero, eA, eB, kc0, kc1, kc2, kc3, kc4, kc5, kc6, kc7, kc8, kc9, kc10, kc11, kc12, kc13, kc14, kc15, kc16, kc17, kc18, kc19, kc20, kc21, kc22, kc23, kc24, kc25, kc26, kc27, kc28, kc29, kc30, kc31, kc32, kc33] at q83) <;> (omega)
                  · try simp (disch := omega) only [bg_w_id, Int.toNat_natCast, rw_land, sh_land, not_true_eq_false, x1, hrem, Int.add_zero, eA, eB, kc0, kc1, kc2, kc3, kc4, kc5, kc6, kc7, kc8, kc9, kc10, kc11, kc12, kc13, kc14, kc15, kc16, kc17, kc18, kc19, kc20, kc21, kc22, kc23, kc24, kc25, kc26, kc27, kc28, kc29, kc30, kc31, kc32, kc33] at q83
                    iterate 3 (refine hX _ ?_; conv => whnf)
                    refine hX _ ?_; conv => whnf
                    try (simp (disch := omega) only [bg_w_id, Int.toNat_natCast, rw_land, sh_land, not_true_eq_false, x1, hrem, Int.add_zero, eA, eB]; try conv => whnf)
                    refine ⟨by first | omega | (simp (disch := omega) only [bg_w_id, Int.toNat_natCast, rw_land, sh_land, not_true_eq_false, x1, hrem, Int.add_zero, eA, eB]; omega), ?_⟩
                    iterate 2 (refine hX _ ?_; conv => whnf)
                    first
                    | (refine ihr (A p) (h 130 p) _ _ _ (by omega) ?_ (by omega) (by omega) (fun m i3 i4 i5 m1 m2 ch => K m _ _ _ m1 (by omega) (Or.inr ⟨v0, v7, p, hp, Or.inl ⟨x1, x2, m2, x4, ch⟩⟩))
                       by_cases e : A p = 0
                       · exact Or.inl e
                       · exact Or.inr ⟨by omega, by omega, x3⟩)
                    | (refine ihr (A p) many _ _ _ (by omega) ?_ (by omega) (by omega) (fun m i3 i4 i5 m1 m2 ch => K m _ _ _ m1 (by omega) (Or.inr ⟨v0, v7, p, hp, Or.inl ⟨x1, x2, by show m ≤ h 130 p; omega, x4, ch⟩⟩))
                       by_cases e : A p = 0
                       · exact Or.inl e
                       · exact Or.inr ⟨by omega, by omega, x3⟩)
                · try simp (disch := omega) only [bg_w_id, Int.toNat_natCast, rw_land, sh_land, not_true_eq_false, x1, hrem, Int.add_zero, eA, eB, kc0, kc1, kc2, kc3, kc4, kc5, kc6, kc7, kc8, kc9, kc10, kc11, kc12, kc13, kc14, kc15, kc16, kc17, kc18, kc19, kc20, kc21, kc22, kc23, kc24, kc25, kc26, kc27, kc28, kc29, kc30, kc31, kc32, kc33] at q63
                  iterate 9 (refine hX _ ?_; conv => whnf)
                  refine hX _ ?_; conv => whnf
                  refine ⟨fun q83 => ?_, fun q83 => ?_⟩
                  · exfalso
                    (try simp (disch := omega) only [bg_w_id, Int.toNat_natCast, rw_land, sh_land, not_true_eq_false, x1, hrem, Int.add_zero, eA, eB, kc0, kc1, kc2, kc3, kc4, kc5, kc6, kc7, kc8, kc9, kc10, kc11, kc12, kc13, kc14, kc15, kc16, kc17, kc18, kc19, kc20, kc21, kc22, kc23, kc24, kc25, kc26, kc27, kc28, kc29, kc30, kc31, kc32, kc33] at q83) <;> (omega)
                  · try simp (disch := omega) only [bg_w_id, Int.toNat_natCast, rw_land, sh_land, not_true_eq_false, x1, hrem, Int.add_zero, eA, eB, kc0, kc1, kc2, kc3, kc4, kc5, kc6, kc7, kc8, kc9, kc10, kc11, kc12, kc13, kc14, kc15, kc16, kc17, kc18, kc19, kc20, kc21, kc22, kc23, kc24, kc25, kc26, kc27, kc28, kc29, kc30, kc31, kc32, kc33] at q83
                    iterate 3 (refine hX _ ?_; conv => whnf)
                    refine hX _ ?_; conv => whnf
                    try (simp (disch := omega) only [bg_w_id, Int.toNat_natCast, rw_land, sh_land, not_true_eq_false, x1, hrem, Int.add_zero, eA, eB]; try conv => whnf)
                    refine ⟨by first | omega | (simp (disch := omega) only [bg_w_id, Int.toNat_natCast, rw_land, sh_land, not_true_eq_false, x1, hrem, Int.add_zero, eA, eB]; omega), ?_⟩
                    iterate 2 (refine hX _ ?_; conv => whnf)
                    first
                    | (refine ihr (A p) (h 130 p) _ _ _ (by omega) ?_ (by omega) (by omega) (fun m i3 i4 i5 m1 m2 ch => K m _ _ _ m1 (by omega) (Or.inr ⟨v0, v7, p, hp, Or.inl ⟨x1, x2, m2, x4, ch⟩⟩))
                       by_cases e : A p = 0
                       · exact Or.inl e
                       · exact Or.inr ⟨by omega, by omega, x3⟩)
                    | (refine ihr (A p) many _ _ _ (by omega) ?_ (by omega) (by omega) (fun m i3 i4 i5 m1 m2 ch => K m _ _ _ m1 (by omega) (Or.inr ⟨v0, v7, p, hp, Or.inl ⟨x1, x2, by show m ≤ h 130 p; omega, x4, ch⟩⟩))
                       by_cases e : A p = 0
                       · exact Or.inl e
                       · exact Or.inr ⟨by omega, by omega, x3⟩)
        · have x5 : 0 < h 131 p := x5
          have hrem : bg_rem (12 + (p : Int)) 12 = (p : Int) := by
            have := rem12 (12 + p) (by omega)
            rw [show ((12 + p : Nat) : Int) = 12 + (p : Int) by omega] at this
            rw [this]
            omega
          refine hX _ ?_; conv => whnf
          refine hX _ ?_; conv => whnf
          refine ⟨fun q7 => ?_, fun q7 => ?_⟩
          · exfalso
            (try simp (disch := omega) only [bg_w_id, Int.toNat_natCast, rw_land, sh_land, not_true_eq_false, x1, hrem, Int.add_zero, eA, eB, kc0, kc1, kc2, kc3, kc4, kc5, kc6, kc7, kc8, kc9, kc10, kc11, kc12, kc13, kc14, kc15, kc16, kc17, kc18, kc19, kc20, kc21, kc22, kc23, kc24, kc25, kc26, kc27, kc28, kc29, kc30, kc31, kc32, kc33] at q7) <;> (omega)
          · try simp (disch := omega) only [bg_w_id, Int.toNat_natCast, rw_land, sh_land, not_true_eq_false, x1, hrem, Int.add_zero, eA, eB, kc0, kc1, kc2, kc3, kc4, kc5, kc6, kc7, kc8, kc9, kc10, kc11, kc12, kc13, kc14, kc15, kc16, kc17, kc18, kc19, kc20, kc21, kc22, kc23, kc24, kc25, kc26, kc27, kc28, kc29, kc30, kc31, kc32, kc33] at q7
            iterate 3 (refine hX _ ?_; conv => whnf)
            refine hX _ ?_; conv => whnf
            try (simp (disch := omega) only [bg_w_id, Int.toNat_natCast, rw_land, sh_land, not_true_eq_false, x1, hrem, Int.add_zero, eA, eB]; try conv => whnf)
            refine ⟨by first | omega | (simp (disch := omega) only [bg_w_id, Int.toNat_natCast, rw_land, sh_land, not_true_eq_false, x1, hrem, Int.add_zero, eA, eB]; omega), ?_⟩
            refine hX _ ?_; conv => whnf
            refine hX _ ?_; conv => whnf
            refine ⟨by first | omega | decide | (simp (disch := omega) only [bg_w_id, Int.toNat_natCast, rw_land, sh_land, not_true_eq_false, x1, hrem, Int.add_zero, eA, eB]; omega), ?_⟩
            iterate 4 (refine hX _ ?_; conv => whnf)
            refine hX _ ?_; conv => whnf
            try (simp (disch := omega) only [bg_w_id, Int.toNat_natCast, rw_land, sh_land, not_true_eq_false, x1, hrem, Int.add_zero, eA, eB]; try conv => whnf)
            refine ⟨by first | omega | (simp (disch := omega) only [bg_w_id, Int.toNat_natCast, rw_land, sh_land, not_true_eq_false, x1, hrem, Int.add_zero, eA, eB]; omega), ?_⟩
            refine hX _ ?_; conv => whnf
            refine hX _ ?_; conv => whnf
            refine ⟨fun q28 => ?_, fun q28 => ?_⟩
            · try simp (disch := omega) only [bg_w_id, Int.toNat_natCast, rw_land, sh_land, not_true_eq_false, x1, hrem, Int.add_zero, eA, eB, kc0, kc1, kc2, kc3, kc4, kc5, kc6, kc7, kc8, kc9, kc10, kc11, kc12, kc13, kc14, kc15, kc16, kc17, kc18, kc19, kc20, kc21, kc22, kc23, kc24, kc25, kc26, kc27, kc28, kc29, kc30, kc31, kc32, kc33] at q28
              iterate 3 (refine hX _ ?_; conv => whnf)
              refine hX _ ?_; conv => whnf
              refine ⟨fun q40 => ?_, fun q40 => ?_⟩
              · try simp (disch := omega) only [bg_w_id, Int.toNat_natCast, rw_land, sh_land, not_true_eq_false, x1, hrem, Int.add_zero, eA, eB, kc0, kc1, kc2, kc3, kc4, kc5, kc6, kc7, kc8, kc9, kc10, kc11, kc12, kc13, kc14, kc15, kc16, kc17, kc18, kc19, kc20, kc21, kc22, kc23, kc24, kc25, kc26, kc27, kc28, kc29, kc30, kc31, kc32, kc33] at q40
                iterate 3 (refine hX _ ?_; conv => whnf)
                refine hX _ ?_; conv => whnf
                try (simp (disch := omega) only [bg_w_id, Int.toNat_natCast, rw_land, sh_land, not_true_eq_false, x1, hrem, Int.add_zero, eA, eB]; try conv => whnf)
                refine ⟨by first | omega | (simp (disch := omega) only [bg_w_id, Int.toNat_natCast, rw_land, sh_land, not_true_eq_false, x1, hrem, Int.add_zero, eA, eB]; omega), ?_⟩
                iterate 3 (refine hX _ ?_; conv => whnf)
                refine hX _ ?_; conv => whnf
                refine ⟨fun q63 => ?_, fun q63 => ?_⟩
                · try simp (disch := omega) only [bg_w_id, Int.toNat_natCast, rw_land, sh_land, not_true_eq_false, x1, hrem, Int.add_zero, eA, eB, kc0, kc1, kc2, kc3, kc4, kc5, kc6, kc7, kc8, kc9, kc10, kc11, kc12, kc13, kc14, kc15, kc16, kc17, kc18, kc19, kc20, kc21, kc22, kc23, kc24, kc25, kc26, kc27, kc28, kc29, kc30, kc31, kc32, kc33] at q63
                  iterate 8 (refine hX _ ?_; conv => whnf)
                  refine hX _ ?_; conv => whnf
                  refine ⟨fun q83 => ?_, fun q83 => ?_⟩
                  · try simp (disch := omega) only [bg_w_id, Int.toNat_natCast, rw_land, sh_land, not_true_eq_false, x1, hrem, Int.add_zero, eA, eB, kc0, kc1, kc2, kc3, kc4, kc5, kc6, kc7, kc8, kc9, kc10, kc11, kc12, kc13, kc14, kc15, kc16, kc17, kc18, kc19, kc20, kc21, kc22, kc23, kc24, kc25, kc26, kc27, kc28, kc29, kc30, kc31, kc32, kc33] at q83
                    iterate 2 (refine hX _ ?_; conv => whnf)
                    refine hX _ ?_; conv => whnf
                    try (simp (disch := omega) only [bg_w_id, Int.toNat_natCast, rw_land, sh_land, not_true_eq_false, x1, hrem, Int.add_zero, eA, eB]; try conv => whnf)
                    refine ⟨by first | omega | (simp (disch := omega) only [bg_w_id, Int.toNat_natCast, rw_land, sh_land, not_true_eq_false, x1, hrem, Int.add_zero, eA, eB]; omega), ?_⟩
                    iterate 2 (refine hX _ ?_; conv => whnf)
                    first
                    | (refine ihr (B p) (h 131 p) _ _ _ (by omega) ?_ (by omega) (by omega) (fun m i3 i4 i5 m1 m2 ch => K m _ _ _ m1 (by omega) (Or.inr ⟨v0, v7, p, hp, Or.inr ⟨x1, x2, m2, x4, ch⟩⟩))
                       by_cases e : B p = 0
                       · exact Or.inl e
                       · exact Or.inr ⟨by omega, by omega, x3⟩)
                    | (refine ihr (B p) many _ _ _ (by omega) ?_ (by omega) (by omega) (fun m i3 i4 i5 m1 m2 ch => K m _ _ _ m1 (by omega) (Or.inr ⟨v0, v7, p, hp, Or.inr ⟨x1, x2, by show m ≤ h 131 p; omega, x4, ch⟩⟩))
                       by_cases e : B p = 0
                       · exact Or.inl e
                       · exact Or.inr ⟨by omega, by omega, x3⟩)
                  · exfalso
                    (try simp (disch := omega) only [bg_w_id, Int.toNat_natCast, rw_land, sh_land, not_true_eq_false, x1, hrem, Int.add_zero, eA, eB, kc0, kc1, kc2, kc3, kc4, kc5, kc6, kc7, kc8, kc9, kc10, kc11, kc12, kc13, kc14, kc15, kc16, kc17, kc18, kc19, kc20, kc21, kc22, kc23, kc24, kc25, kc26, kc27, kc28, kc29, kc30, kc31, kc32, kc33] at q83) <;> (omega)
                · try simp (disch := omega) only [bg_w_id, Int.toNat_natCast, rw_land, sh_land, not_true_eq_false, x1, hrem, Int.add_zero, eA, eB, kc0, kc1, kc2, kc3, kc4, kc5, kc6, kc7, kc8, kc9, kc10, kc11, kc12, kc13, kc14, kc15, kc16, kc17, kc18, kc19, kc20, kc21, kc22, kc23, kc24, kc25, kc26, kc27, kc28, kc29, kc30, kc31, kc32, kc33] at q63
                  iterate 9 (refine hX _ ?_; conv => whnf)
                  refine hX _ ?_; conv => whnf
                  refine ⟨fun q83 => ?_, fun q83 => ?_⟩
                  · try simp (disch := omega) only [bg_w_id, Int.toNat_natCast, rw_land, sh_land, not_true_eq_false, x1, hrem, Int.add_zero, eA, eB, kc0, kc1, kc2, kc3, kc4, kc5, kc6, kc7, kc8, kc9, kc10, kc11, kc12, kc13, kc14, kc15, kc16, kc17, kc18, kc19, kc20, kc21, kc22, kc23, kc24, kc25, kc26, kc27, kc28, kc29, kc30, kc31, kc32, kc33] at q83
                    iterate 2 (refine hX _ ?_; conv => whnf)
                    refine hX _ ?_; conv => whnf
                    try (simp (disch := omega) only [bg_w_id, Int.toNat_natCast, rw_land, sh_land, not_true_eq_false, x1, hrem, Int.add_zero, eA, eB]; try conv => whnf)
                    refine ⟨by first | omega | (simp (disch := omega) only [bg_w_id, Int.toNat_natCast, rw_land, sh_land, not_true_eq_false, x1, hrem, Int.add_zero, eA, eB]; omega), ?_⟩
                    iterate 2 (refine hX _ ?_; conv => whnf)
                    first
                    | (refine ihr (B p) (h 131 p) _ _ _ (by omega) ?_ (by omega) (by omega) (fun m i3 i4 i5 m1 m2 ch => K m _ _ _ m1 (by omega) (Or.inr ⟨v0, v7, p, hp, Or.inr ⟨x1, x2, m2, x4, ch⟩⟩))
                       by_cases e : B p = 0
                       · exact Or.inl e
                       · exact Or.inr ⟨by omega, by omega, x3⟩)
                    | (refine ihr (B p) many _ _ _ (by omega) ?_ (by omega) (by omega) (fun m i3 i4 i5 m1 m2 ch => K m _ _ _ m1 (by omega) (Or.inr ⟨v0, v7, p, hp, Or.inr ⟨x1, x2, by show m ≤ h 131 p; omega, x4, ch⟩⟩))
                       by_cases e : B p = 0
                       · exact Or.inl e
                       · exact Or.inr ⟨by omega, by omega, x3⟩)
                  · exfalso
                    (try simp (disch := omega) only [bg_w_id, Int.toNat_natCast, rw_land, sh_land, not_true_eq_false, x1, hrem, Int.add_zero, eA, eB, kc0, kc1, kc2, kc3, kc4, kc5, kc6, kc7, kc8, kc9, kc10, kc11, kc12, kc13, kc14, kc15, kc16, kc17, kc18, kc19, kc20, kc21, kc22, kc23, kc24, kc25, kc26, kc27, kc28, kc29, kc30, kc31, kc32, kc33] at q83) <;> (omega)
              · exfalso
                (try simp (disch := omega) only [bg_w_id, Int.toNat_natCast, rw_land, sh_land, not_true_eq_false, x1, hrem, Int.add_zero, eA, eB, kc0, kc1, kc2, kc3, kc4, kc5, kc6, kc7, kc8, kc9, kc10, kc11, kc12, kc13, kc14, kc15, kc16, kc17, kc18, kc19, kc20, kc21, kc22, kc23, kc24, kc25, kc26, kc27, kc28, kc29, kc30, kc31, kc32, kc33] at q40) <;> (omega)
            · exfalso
              (try simp (disch := omega) only [bg_w_id, Int.toNat_natCast, rw_land, sh_land, not_true_eq_false, x1, hrem, Int.add_zero, eA, eB, kc0, kc1, kc2, kc3, kc4, kc5, kc6, kc7, kc8, kc9, kc10, kc11, kc12, kc13, kc14, kc15, kc16, kc17, kc18, kc19, kc20, kc21, kc22, kc23, kc24, kc25, kc26, kc27, kc28, kc29, kc30, kc31, kc32, kc33] at q28) <;> (omega)
  have L2 : ∀ (k : Nat) (v m : Int) (h' : bg_G) (j3 j4 j5 : Option bg_V), 1 ≤ m → m ≤ 100000 → chOK N A B (h 132) rk (fun p => h' 130 p) (fun p => h' 131 p) m k v → (∀ j, j ≠ 130 → j ≠ 131 → h' j = h j) → (∀ p : Nat, p < N → 0 ≤ h' 130 p ∧ 0 ≤ h' 131 p ∧ h' 130 p + h' 131 p = h 130 p + h 131 p) → (∀ w : Int, exv N A B (fun p => h' 131 p) w = exv N A B (fun p => h 131 p) w + (if w = 7 then m else 0) - (if w = v then m else 0)) → X (100, [oR 115, oI m, oI v, j3, j4, j5], [], (bg_SH n, h'), (0, 0)) := by
    have fin : ∀ (m : Int) (h' : bg_G) (j3 j4 j5 : Option bg_V), 1 ≤ m → m ≤ 100000 → (∀ j, j ≠ 130 → j ≠ 131 → h' j = h j) → (∀ p : Nat, p < N → 0 ≤ h' 130 p ∧ 0 ≤ h' 131 p ∧ h' 130 p + h' 131 p = h 130 p + h 131 p) → (∀ w : Int, exv N A B (fun p => h' 131 p) w = exv N A B (fun p => h 131 p) w + (if w = 7 then m else 0) - (if w = 0 then m else 0)) → X (100, [oR 115, oI m, oI 0, j3, j4, j5], [], (bg_SH n, h'), (0, 0)) := by
      intro m h' j3 j4 j5 m1 m2 f1 f2 f3
      refine hX _ ?_; conv => whnf
      refine hX _ ?_; conv => whnf
      refine ⟨fun q101 => ?_, fun q101 => ?_⟩
      · try simp (disch := omega) only [bg_w_id, Int.toNat_natCast, rw_land, sh_land, not_true_eq_false, kc0, kc1, kc2, kc3, kc4, kc5, kc6, kc7, kc8, kc9, kc10, kc11, kc12, kc13, kc14, kc15, kc16, kc17, kc18, kc19, kc20, kc21, kc22, kc23, kc24, kc25, kc26, kc27, kc28, kc29, kc30, kc31, kc32, kc33] at q101
        refine hX _ ?_; conv => whnf
        refine hX _ ?_; conv => whnf
        exact hR h' m m1 m2 f1 f2 f3
      · exfalso
        (try simp (disch := omega) only [bg_w_id, Int.toNat_natCast, rw_land, sh_land, not_true_eq_false, kc0, kc1, kc2, kc3, kc4, kc5, kc6, kc7, kc8, kc9, kc10, kc11, kc12, kc13, kc14, kc15, kc16, kc17, kc18, kc19, kc20, kc21, kc22, kc23, kc24, kc25, kc26, kc27, kc28, kc29, kc30, kc31, kc32, kc33] at q101) <;> (omega)
    intro k
    induction k with
    | zero =>
      intro v m h' j3 j4 j5 m1 m2 hc f1 f2 f3
      have hc : v = 0 := hc
      subst hc
      exact fin m h' _ _ _ m1 m2 f1 f2 f3
    | succ k ihk =>
      intro v m h' j3 j4 j5 m1 m2 hc f1 f2 f3
      rcases hc with hc | ⟨v0, v7, p, hp, hq⟩
      · subst hc
        exact fin m h' _ _ _ m1 m2 f1 f2 f3
      · have a1 := rA p hp
        have b1 := rB p hp
        have r1 := hr p hp
        have r2 := f2 p hp
        have e131 := f1 132 (by omega) (by omega)
        have e117 := f1 118 (by omega) (by omega)
        rcases hq with ⟨x1, x2, x3, x4, x5⟩ | ⟨x1, x2, x3, x4, x5⟩
        · have x3 : m ≤ h' 130 p := x3
          have hrem : bg_rem (p : Int) 12 = (p : Int) := by rw [rem12 p (by omega), Nat.mod_eq_of_lt (by omega)]
          have nx : ∀ (y1 y2 : Int) (j3 j4 j5 : Option bg_V), y1 = h' 130 p - m → y2 = h' 131 p + m → X (100, [oR 115, oI m, oI (A p), j3, j4, j5], [], (bg_SH n, bg_up (bg_up h' 130 p y1) 131 p y2), (0, 0)) := by
            intro y1 y2 j3 j4 j5 ey1 ey2
            refine ihk (A p) m _ _ _ _ m1 m2 ?_ ?_ ?_ ?_
            · refine chOK_tr (p0 := p) (ρ := rk v) (Or.inr (by rw [x2]; omega)) (fun p' hp' => ?_) (fun p' hp' => ?_) k _ x4 x5
              · show bg_up (bg_up h' 130 p y1) 131 p y2 130 p' = h' 130 p'
                rw [bg_up_ne (by omega), bg_up_nj (by omega)]
              · show bg_up (bg_up h' 130 p y1) 131 p y2 131 p' = h' 131 p'
                rw [bg_up_nj (by omega), bg_up_ne (by omega)]
            · intro j hj1 hj2
              rw [bg_up_ne hj2, bg_up_ne hj1]
              exact f1 j hj1 hj2
            · intro p' hp'
              have r3 := f2 p' hp'
              by_cases e : p' = p
              · subst e
                rw [bg_up_self, bg_up_ne (by omega), bg_up_self]
                omega
              · rw [show bg_up (bg_up h' 130 p y1) 131 p y2 130 p' = h' 130 p' by rw [bg_up_ne (by omega), bg_up_nj (by omega)], show bg_up (bg_up h' 130 p y1) 131 p y2 131 p' = h' 131 p' by rw [bg_up_nj (by omega), bg_up_ne (by omega)]]
                exact r3
            · intro w
              have e1 := exv_up (A := A) (B := B) (g := fun p => h' 131 p) (g' := fun p' => bg_up (bg_up h' 130 p y1) 131 p y2 131 p') (p0 := p) (δ := m) hp (by show bg_up (bg_up h' 130 p y1) 131 p y2 131 p = h' 131 p + m; rw [bg_up_self, ey2]) (fun p' hp' => by show bg_up (bg_up h' 130 p y1) 131 p y2 131 p' = h' 131 p'; rw [bg_up_nj (by omega), bg_up_ne (by omega)]) w
              rw [e1, f3 w, x2]
              have e2 : (if v = w then m else 0) = (if w = v then m else 0) := by split <;> split <;> omega
              have e3 : (if A p = w then m else 0) = (if w = A p then m else 0) := by split <;> split <;> omega
              rw [e2, e3]
              omega
          refine hX _ ?_; conv => whnf
          refine hX _ ?_; conv => whnf
          refine ⟨fun q101 => ?_, fun q101 => ?_⟩
          · exfalso
            (try simp (disch := omega) only [bg_w_id, Int.toNat_natCast, rw_land, sh_land, not_true_eq_false, bg_up_ne, e131, e117, x1, hrem, Int.add_zero, eA, eB, kc0, kc1, kc2, kc3, kc4, kc5, kc6, kc7, kc8, kc9, kc10, kc11, kc12, kc13, kc14, kc15, kc16, kc17, kc18, kc19, kc20, kc21, kc22, kc23, kc24, kc25, kc26, kc27, kc28, kc29, kc30, kc31, kc32, kc33] at q101) <;> (omega)
          · try simp (disch := omega) only [bg_w_id, Int.toNat_natCast, rw_land, sh_land, not_true_eq_false, bg_up_ne, e131, e117, x1, hrem, Int.add_zero, eA, eB, kc0, kc1, kc2, kc3, kc4, kc5, kc6, kc7, kc8, kc9, kc10, kc11, kc12, kc13, kc14, kc15, kc16, kc17, kc18, kc19, kc20, kc21, kc22, kc23, kc24, kc25, kc26, kc27, kc28, kc29, kc30, kc31, kc32, kc33] at q101
            iterate 3 (refine hX _ ?_; conv => whnf)
            refine hX _ ?_; conv => whnf
            try (simp (disch := omega) only [bg_w_id, Int.toNat_natCast, rw_land, sh_land, not_true_eq_false, bg_up_ne, e131, e117, x1, hrem, Int.add_zero, eA, eB]; try conv => whnf)
            refine ⟨by first | omega | (simp (disch := omega) only [bg_w_id, Int.toNat_natCast, rw_land, sh_land, not_true_eq_false, bg_up_ne, e131, e117, x1, hrem, Int.add_zero, eA, eB]; omega), ?_⟩
            refine hX _ ?_; conv => whnf
            refine hX _ ?_; conv => whnf
            refine ⟨by first | omega | decide | (simp (disch := omega) only [bg_w_id, Int.toNat_natCast, rw_land, sh_land, not_true_eq_false, bg_up_ne, e131, e117, x1, hrem, Int.add_zero, eA, eB]; omega), ?_⟩
            iterate 4 (refine hX _ ?_; conv => whnf)
            refine hX _ ?_; conv => whnf
            try (simp (disch := omega) only [bg_w_id, Int.toNat_natCast, rw_land, sh_land, not_true_eq_false, bg_up_ne, e131, e117, x1, hrem, Int.add_zero, eA, eB]; try conv => whnf)
            refine ⟨by first | omega | (simp (disch := omega) only [bg_w_id, Int.toNat_natCast, rw_land, sh_land, not_true_eq_false, bg_up_ne, e131, e117, x1, hrem, Int.add_zero, eA, eB]; omega), ?_⟩
            refine hX _ ?_; conv => whnf
            refine hX _ ?_; conv => whnf
            refine ⟨fun q122 => ?_, fun q122 => ?_⟩
            · exfalso
              (try simp (disch := omega) only [bg_w_id, Int.toNat_natCast, rw_land, sh_land, not_true_eq_false, bg_up_ne, e131, e117, x1, hrem, Int.add_zero, eA, eB, kc0, kc1, kc2, kc3, kc4, kc5, kc6, kc7, kc8, kc9, kc10, kc11, kc12, kc13, kc14, kc15, kc16, kc17, kc18, kc19, kc20, kc21, kc22, kc23, kc24, kc25, kc26, kc27, kc28, kc29, kc30, kc31, kc32, kc33] at q122) <;> (omega)
            · try simp (disch := omega) only [bg_w_id, Int.toNat_natCast, rw_land, sh_land, not_true_eq_false, bg_up_ne, e131, e117, x1, hrem, Int.add_zero, eA, eB, kc0, kc1, kc2, kc3, kc4, kc5, kc6, kc7, kc8, kc9, kc10, kc11, kc12, kc13, kc14, kc15, kc16, kc17, kc18, kc19, kc20, kc21, kc22, kc23, kc24, kc25, kc26, kc27, kc28, kc29, kc30, kc31, kc32, kc33] at q122
              iterate 7 (refine hX _ ?_; conv => whnf)
              refine hX _ ?_; conv => whnf
              try (simp (disch := omega) only [bg_w_id, Int.toNat_natCast, rw_land, sh_land, not_true_eq_false, bg_up_ne, e131, e117, x1, hrem, Int.add_zero, eA, eB]; try conv => whnf)
              refine ⟨by first | omega | (simp (disch := omega) only [bg_w_id, Int.toNat_natCast, rw_land, sh_land, not_true_eq_false, bg_up_ne, e131, e117, x1, hrem, Int.add_zero, eA, eB]; omega), ?_⟩
              refine hX _ ?_; conv => whnf
              refine hX _ ?_; conv => whnf
              refine ⟨fun q141 => ?_, fun q141 => ?_⟩
              · exfalso
                (try simp (disch := omega) only [bg_w_id, Int.toNat_natCast, rw_land, sh_land, not_true_eq_false, bg_up_ne, e131, e117, x1, hrem, Int.add_zero, eA, eB, kc0, kc1, kc2, kc3, kc4, kc5, kc6, kc7, kc8, kc9, kc10, kc11, kc12, kc13, kc14, kc15, kc16, kc17, kc18, kc19, kc20, kc21, kc22, kc23, kc24, kc25, kc26, kc27, kc28, kc29, kc30, kc31, kc32, kc33] at q141) <;> (omega)
              · try simp (disch := omega) only [bg_w_id, Int.toNat_natCast, rw_land, sh_land, not_true_eq_false, bg_up_ne, e131, e117, x1, hrem, Int.add_zero, eA, eB, kc0, kc1, kc2, kc3, kc4, kc5, kc6, kc7, kc8, kc9, kc10, kc11, kc12, kc13, kc14, kc15, kc16, kc17, kc18, kc19, kc20, kc21, kc22, kc23, kc24, kc25, kc26, kc27, kc28, kc29, kc30, kc31, kc32, kc33] at q141
                iterate 3 (refine hX _ ?_; conv => whnf)
                refine hX _ ?_; conv => whnf
                try (simp (disch := omega) only [bg_w_id, Int.toNat_natCast, rw_land, sh_land, not_true_eq_false, bg_up_ne, e131, e117, x1, hrem, Int.add_zero, eA, eB]; try conv => whnf)
                refine ⟨by first | omega | (simp (disch := omega) only [bg_w_id, Int.toNat_natCast, rw_land, sh_land, not_true_eq_false, bg_up_ne, e131, e117, x1, hrem, Int.add_zero, eA, eB]; omega), ?_⟩
                iterate 4 (refine hX _ ?_; conv => whnf)
                refine hX _ ?_; conv => whnf
                try (simp (disch := omega) only [bg_w_id, Int.toNat_natCast, rw_land, sh_land, not_true_eq_false, bg_up_ne, e131, e117, x1, hrem, Int.add_zero, eA, eB]; try conv => whnf)
                refine ⟨by first | omega | (simp (disch := omega) only [bg_w_id, Int.toNat_natCast, rw_land, sh_land, not_true_eq_false, bg_up_ne, e131, e117, x1, hrem, Int.add_zero, eA, eB]; omega), ?_⟩
                refine hX _ ?_; conv => whnf
                refine hX _ ?_; conv => whnf
                refine ⟨fun q161 => ?_, fun q161 => ?_⟩
                · exfalso
                  (try simp (disch := omega) only [bg_w_id, Int.toNat_natCast, rw_land, sh_land, not_true_eq_false, bg_up_ne, e131, e117, x1, hrem, Int.add_zero, eA, eB, kc0, kc1, kc2, kc3, kc4, kc5, kc6, kc7, kc8, kc9, kc10, kc11, kc12, kc13, kc14, kc15, kc16, kc17, kc18, kc19, kc20, kc21, kc22, kc23, kc24, kc25, kc26, kc27, kc28, kc29, kc30, kc31, kc32, kc33] at q161) <;> (omega)
                · try simp (disch := omega) only [bg_w_id, Int.toNat_natCast, rw_land, sh_land, not_true_eq_false, bg_up_ne, e131, e117, x1, hrem, Int.add_zero, eA, eB, kc0, kc1, kc2, kc3, kc4, kc5, kc6, kc7, kc8, kc9, kc10, kc11, kc12, kc13, kc14, kc15, kc16, kc17, kc18, kc19, kc20, kc21, kc22, kc23, kc24, kc25, kc26, kc27, kc28, kc29, kc30, kc31, kc32, kc33] at q161
                  iterate 3 (refine hX _ ?_; conv => whnf)
                  refine hX _ ?_; conv => whnf
                  try (simp (disch := omega) only [bg_w_id, Int.toNat_natCast, rw_land, sh_land, not_true_eq_false, bg_up_ne, e131, e117, x1, hrem, Int.add_zero, eA, eB]; try conv => whnf)
                  refine ⟨by first | omega | (simp (disch := omega) only [bg_w_id, Int.toNat_natCast, rw_land, sh_land, not_true_eq_false, bg_up_ne, e131, e117, x1, hrem, Int.add_zero, eA, eB]; omega), ?_⟩
                  iterate 6 (refine hX _ ?_; conv => whnf)
                  refine hX _ ?_; conv => whnf
                  refine ⟨fun q182 => ?_, fun q182 => ?_⟩
                  · exfalso
                    (try simp (disch := omega) only [bg_w_id, Int.toNat_natCast, rw_land, sh_land, not_true_eq_false, bg_up_ne, e131, e117, x1, hrem, Int.add_zero, eA, eB, kc0, kc1, kc2, kc3, kc4, kc5, kc6, kc7, kc8, kc9, kc10, kc11, kc12, kc13, kc14, kc15, kc16, kc17, kc18, kc19, kc20, kc21, kc22, kc23, kc24, kc25, kc26, kc27, kc28, kc29, kc30, kc31, kc32, kc33] at q182) <;> (omega)
                  · try simp (disch := omega) only [bg_w_id, Int.toNat_natCast, rw_land, sh_land, not_true_eq_false, bg_up_ne, e131, e117, x1, hrem, Int.add_zero, eA, eB, kc0, kc1, kc2, kc3, kc4, kc5, kc6, kc7, kc8, kc9, kc10, kc11, kc12, kc13, kc14, kc15, kc16, kc17, kc18, kc19, kc20, kc21, kc22, kc23, kc24, kc25, kc26, kc27, kc28, kc29, kc30, kc31, kc32, kc33] at q182
                    iterate 3 (refine hX _ ?_; conv => whnf)
                    refine hX _ ?_; conv => whnf
                    try (simp (disch := omega) only [bg_w_id, Int.toNat_natCast, rw_land, sh_land, not_true_eq_false, bg_up_ne, e131, e117, x1, hrem, Int.add_zero, eA, eB]; try conv => whnf)
                    refine ⟨by first | omega | (simp (disch := omega) only [bg_w_id, Int.toNat_natCast, rw_land, sh_land, not_true_eq_false, bg_up_ne, e131, e117, x1, hrem, Int.add_zero, eA, eB]; omega), ?_⟩
                    iterate 2 (refine hX _ ?_; conv => whnf)
                    refine nx _ _ _ _ _ ?_ ?_
                    · first | omega | (simp (disch := omega) only [bg_w_id])
                    · first | omega | (simp (disch := omega) only [bg_w_id, bg_up_ne])
        · have x3 : m ≤ h' 131 p := x3
          have hrem : bg_rem (12 + (p : Int)) 12 = (p : Int) := by
            have := rem12 (12 + p) (by omega)
            rw [show ((12 + p : Nat) : Int) = 12 + (p : Int) by omega] at this
            rw [this]
            omega
          have nx : ∀ (y1 y2 : Int) (j3 j4 j5 : Option bg_V), y1 = h' 130 p + m → y2 = h' 131 p - m → X (100, [oR 115, oI m, oI (B p), j3, j4, j5], [], (bg_SH n, bg_up (bg_up h' 130 p y1) 131 p y2), (0, 0)) := by
            intro y1 y2 j3 j4 j5 ey1 ey2
            refine ihk (B p) m _ _ _ _ m1 m2 ?_ ?_ ?_ ?_
            · refine chOK_tr (p0 := p) (ρ := rk v) (Or.inl (by rw [x2]; omega)) (fun p' hp' => ?_) (fun p' hp' => ?_) k _ x4 x5
              · show bg_up (bg_up h' 130 p y1) 131 p y2 130 p' = h' 130 p'
                rw [bg_up_ne (by omega), bg_up_nj (by omega)]
              · show bg_up (bg_up h' 130 p y1) 131 p y2 131 p' = h' 131 p'
                rw [bg_up_nj (by omega), bg_up_ne (by omega)]
            · intro j hj1 hj2
              rw [bg_up_ne hj2, bg_up_ne hj1]
              exact f1 j hj1 hj2
            · intro p' hp'
              have r3 := f2 p' hp'
              by_cases e : p' = p
              · subst e
                rw [bg_up_self, bg_up_ne (by omega), bg_up_self]
                omega
              · rw [show bg_up (bg_up h' 130 p y1) 131 p y2 130 p' = h' 130 p' by rw [bg_up_ne (by omega), bg_up_nj (by omega)], show bg_up (bg_up h' 130 p y1) 131 p y2 131 p' = h' 131 p' by rw [bg_up_nj (by omega), bg_up_ne (by omega)]]
                exact r3
            · intro w
              have e1 := exv_up (A := A) (B := B) (g := fun p => h' 131 p) (g' := fun p' => bg_up (bg_up h' 130 p y1) 131 p y2 131 p') (p0 := p) (δ := -m) hp (by show bg_up (bg_up h' 130 p y1) 131 p y2 131 p = h' 131 p + -m; rw [bg_up_self, ey2]; omega) (fun p' hp' => by show bg_up (bg_up h' 130 p y1) 131 p y2 131 p' = h' 131 p'; rw [bg_up_nj (by omega), bg_up_ne (by omega)]) w
              rw [e1, f3 w, x2]
              have e2 : (if v = w then -m else 0) = - (if w = v then m else 0) := by split <;> split <;> omega
              have e3 : (if B p = w then -m else 0) = - (if w = B p then m else 0) := by split <;> split <;> omega
              rw [e2, e3]
              omega
          refine hX _ ?_; conv => whnf
          refine hX _ ?_; conv => whnf
          refine ⟨fun q101 => ?_, fun q101 => ?_⟩
          · exfalso
            (try simp (disch := omega) only [bg_w_id, Int.toNat_natCast, rw_land, sh_land, not_true_eq_false, bg_up_ne, e131, e117, x1, hrem, Int.add_zero, eA, eB, kc0, kc1, kc2, kc3, kc4, kc5, kc6, kc7, kc8, kc9, kc10, kc11, kc12, kc13, kc14, kc15, kc16, kc17, kc18, kc19, kc20, kc21, kc22, kc23, kc24, kc25, kc26, kc27, kc28, kc29, kc30, kc31, kc32, kc33] at q101) <;> (omega)
          · try simp (disch := omega) only [bg_w_id, Int.toNat_natCast, rw_land, sh_land, not_true_eq_false, bg_up_ne, e131, e117, x1, hrem, Int.add_zero, eA, eB, kc0, kc1, kc2, kc3, kc4, kc5, kc6, kc7, kc8, kc9, kc10, kc11, kc12, kc13, kc14, kc15, kc16, kc17, kc18, kc19, kc20, kc21, kc22, kc23, kc24, kc25, kc26, kc27, kc28, kc29, kc30, kc31, kc32, kc33] at q101
            iterate 3 (refine hX _ ?_; conv => whnf)
            refine hX _ ?_; conv => whnf
            try (simp (disch := omega) only [bg_w_id, Int.toNat_natCast, rw_land, sh_land, not_true_eq_false, bg_up_ne, e131, e117, x1, hrem, Int.add_zero, eA, eB]; try conv => whnf)
            refine ⟨by first | omega | (simp (disch := omega) only [bg_w_id, Int.toNat_natCast, rw_land, sh_land, not_true_eq_false, bg_up_ne, e131, e117, x1, hrem, Int.add_zero, eA, eB]; omega), ?_⟩
            refine hX _ ?_; conv => whnf
            refine hX _ ?_; conv => whnf
            refine ⟨by first | omega | decide | (simp (disch := omega) only [bg_w_id, Int.toNat_natCast, rw_land, sh_land, not_true_eq_false, bg_up_ne, e131, e117, x1, hrem, Int.add_zero, eA, eB]; omega), ?_⟩
            iterate 4 (refine hX _ ?_; conv => whnf)
            refine hX _ ?_; conv => whnf
            try (simp (disch := omega) only [bg_w_id, Int.toNat_natCast, rw_land, sh_land, not_true_eq_false, bg_up_ne, e131, e117, x1, hrem, Int.add_zero, eA, eB]; try conv => whnf)
            refine ⟨by first | omega | (simp (disch := omega) only [bg_w_id, Int.toNat_natCast, rw_land, sh_land, not_true_eq_false, bg_up_ne, e131, e117, x1, hrem, Int.add_zero, eA, eB]; omega), ?_⟩
            refine hX _ ?_; conv => whnf
            refine hX _ ?_; conv => whnf
            refine ⟨fun q122 => ?_, fun q122 => ?_⟩
            · try simp (disch := omega) only [bg_w_id, Int.toNat_natCast, rw_land, sh_land, not_true_eq_false, bg_up_ne, e131, e117, x1, hrem, Int.add_zero, eA, eB, kc0, kc1, kc2, kc3, kc4, kc5, kc6, kc7, kc8, kc9, kc10, kc11, kc12, kc13, kc14, kc15, kc16, kc17, kc18, kc19, kc20, kc21, kc22, kc23, kc24, kc25, kc26, kc27, kc28, kc29, kc30, kc31, kc32, kc33] at q122
              iterate 6 (refine hX _ ?_; conv => whnf)
              refine hX _ ?_; conv => whnf
              try (simp (disch := omega) only [bg_w_id, Int.toNat_natCast, rw_land, sh_land, not_true_eq_false, bg_up_ne, e131, e117, x1, hrem, Int.add_zero, eA, eB]; try conv => whnf)
              refine ⟨by first | omega | (simp (disch := omega) only [bg_w_id, Int.toNat_natCast, rw_land, sh_land, not_true_eq_false, bg_up_ne, e131, e117, x1, hrem, Int.add_zero, eA, eB]; omega), ?_⟩
              refine hX _ ?_; conv => whnf
              refine hX _ ?_; conv => whnf
              refine ⟨fun q141 => ?_, fun q141 => ?_⟩
              · try simp (disch := omega) only [bg_w_id, Int.toNat_natCast, rw_land, sh_land, not_true_eq_false, bg_up_ne, e131, e117, x1, hrem, Int.add_zero, eA, eB, kc0, kc1, kc2, kc3, kc4, kc5, kc6, kc7, kc8, kc9, kc10, kc11, kc12, kc13, kc14, kc15, kc16, kc17, kc18, kc19, kc20, kc21, kc22, kc23, kc24, kc25, kc26, kc27, kc28, kc29, kc30, kc31, kc32, kc33] at q141
                iterate 3 (refine hX _ ?_; conv => whnf)
                refine hX _ ?_; conv => whnf
                try (simp (disch := omega) only [bg_w_id, Int.toNat_natCast, rw_land, sh_land, not_true_eq_false, bg_up_ne, e131, e117, x1, hrem, Int.add_zero, eA, eB]; try conv => whnf)
                refine ⟨by first | omega | (simp (disch := omega) only [bg_w_id, Int.toNat_natCast, rw_land, sh_land, not_true_eq_false, bg_up_ne, e131, e117, x1, hrem, Int.add_zero, eA, eB]; omega), ?_⟩
                iterate 4 (refine hX _ ?_; conv => whnf)
                refine hX _ ?_; conv => whnf
                try (simp (disch := omega) only [bg_w_id, Int.toNat_natCast, rw_land, sh_land, not_true_eq_false, bg_up_ne, e131, e117, x1, hrem, Int.add_zero, eA, eB]; try conv => whnf)
                refine ⟨by first | omega | (simp (disch := omega) only [bg_w_id, Int.toNat_natCast, rw_land, sh_land, not_true_eq_false, bg_up_ne, e131, e117, x1, hrem, Int.add_zero, eA, eB]; omega), ?_⟩
                refine hX _ ?_; conv => whnf
                refine hX _ ?_; conv => whnf
                refine ⟨fun q161 => ?_, fun q161 => ?_⟩
                · try simp (disch := omega) only [bg_w_id, Int.toNat_natCast, rw_land, sh_land, not_true_eq_false, bg_up_ne, e131, e117, x1, hrem, Int.add_zero, eA, eB, kc0, kc1, kc2, kc3, kc4, kc5, kc6, kc7, kc8, kc9, kc10, kc11, kc12, kc13, kc14, kc15, kc16, kc17, kc18, kc19, kc20, kc21, kc22, kc23, kc24, kc25, kc26, kc27, kc28, kc29, kc30, kc31, kc32, kc33] at q161
                  iterate 3 (refine hX _ ?_; conv => whnf)
                  refine hX _ ?_; conv => whnf
                  try (simp (disch := omega) only [bg_w_id, Int.toNat_natCast, rw_land, sh_land, not_true_eq_false, bg_up_ne, e131, e117, x1, hrem, Int.add_zero, eA, eB]; try conv => whnf)
                  refine ⟨by first | omega | (simp (disch := omega) only [bg_w_id, Int.toNat_natCast, rw_land, sh_land, not_true_eq_false, bg_up_ne, e131, e117, x1, hrem, Int.add_zero, eA, eB]; omega), ?_⟩
                  iterate 6 (refine hX _ ?_; conv => whnf)
                  refine hX _ ?_; conv => whnf
                  refine ⟨fun q182 => ?_, fun q182 => ?_⟩
                  · try simp (disch := omega) only [bg_w_id, Int.toNat_natCast, rw_land, sh_land, not_true_eq_false, bg_up_ne, e131, e117, x1, hrem, Int.add_zero, eA, eB, kc0, kc1, kc2, kc3, kc4, kc5, kc6, kc7, kc8, kc9, kc10, kc11, kc12, kc13, kc14, kc15, kc16, kc17, kc18, kc19, kc20, kc21, kc22, kc23, kc24, kc25, kc26, kc27, kc28, kc29, kc30, kc31, kc32, kc33] at q182
                    iterate 2 (refine hX _ ?_; conv => whnf)
                    refine hX _ ?_; conv => whnf
                    try (simp (disch := omega) only [bg_w_id, Int.toNat_natCast, rw_land, sh_land, not_true_eq_false, bg_up_ne, e131, e117, x1, hrem, Int.add_zero, eA, eB]; try conv => whnf)
                    refine ⟨by first | omega | (simp (disch := omega) only [bg_w_id, Int.toNat_natCast, rw_land, sh_land, not_true_eq_false, bg_up_ne, e131, e117, x1, hrem, Int.add_zero, eA, eB]; omega), ?_⟩
                    iterate 2 (refine hX _ ?_; conv => whnf)
                    refine nx _ _ _ _ _ ?_ ?_
                    · first | omega | (simp (disch := omega) only [bg_w_id]; omega)
                    · first | omega | (simp (disch := omega) only [bg_w_id, bg_up_ne]; omega)
                  · exfalso
                    (try simp (disch := omega) only [bg_w_id, Int.toNat_natCast, rw_land, sh_land, not_true_eq_false, bg_up_ne, e131, e117, x1, hrem, Int.add_zero, eA, eB, kc0, kc1, kc2, kc3, kc4, kc5, kc6, kc7, kc8, kc9, kc10, kc11, kc12, kc13, kc14, kc15, kc16, kc17, kc18, kc19, kc20, kc21, kc22, kc23, kc24, kc25, kc26, kc27, kc28, kc29, kc30, kc31, kc32, kc33] at q182) <;> (omega)
                · exfalso
                  (try simp (disch := omega) only [bg_w_id, Int.toNat_natCast, rw_land, sh_land, not_true_eq_false, bg_up_ne, e131, e117, x1, hrem, Int.add_zero, eA, eB, kc0, kc1, kc2, kc3, kc4, kc5, kc6, kc7, kc8, kc9, kc10, kc11, kc12, kc13, kc14, kc15, kc16, kc17, kc18, kc19, kc20, kc21, kc22, kc23, kc24, kc25, kc26, kc27, kc28, kc29, kc30, kc31, kc32, kc33] at q161) <;> (omega)
              · exfalso
                (try simp (disch := omega) only [bg_w_id, Int.toNat_natCast, rw_land, sh_land, not_true_eq_false, bg_up_ne, e131, e117, x1, hrem, Int.add_zero, eA, eB, kc0, kc1, kc2, kc3, kc4, kc5, kc6, kc7, kc8, kc9, kc10, kc11, kc12, kc13, kc14, kc15, kc16, kc17, kc18, kc19, kc20, kc21, kc22, kc23, kc24, kc25, kc26, kc27, kc28, kc29, kc30, kc31, kc32, kc33] at q141) <;> (omega)
            · exfalso
              (try simp (disch := omega) only [bg_w_id, Int.toNat_natCast, rw_land, sh_land, not_true_eq_false, bg_up_ne, e131, e117, x1, hrem, Int.add_zero, eA, eB, kc0, kc1, kc2, kc3, kc4, kc5, kc6, kc7, kc8, kc9, kc10, kc11, kc12, kc13, kc14, kc15, kc16, kc17, kc18, kc19, kc20, kc21, kc22, kc23, kc24, kc25, kc26, kc27, kc28, kc29, kc30, kc31, kc32, kc33] at q122) <;> (omega)
  iterate 4 (refine hX _ ?_; conv => whnf)
  refine L1 (rk 7) 7 100000 _ _ _ (Nat.le_refl _) (Or.inr ⟨by omega, by omega, hS7⟩) (by omega) (by omega) (fun m j3 j4 j5 m1 m2 hc => ?_)
  iterate 2 (refine hX _ ?_; conv => whnf)
  refine L2 _ 7 m h _ _ _ m1 (by omega) hc (fun _ _ _ => rfl) (fun p hp => ⟨(hr p hp).1.1, (hr p hp).2.1, rfl⟩) (fun w => by omega)
