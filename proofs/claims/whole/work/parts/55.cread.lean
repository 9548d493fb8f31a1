/-! the class reads the text into a land -/
/-- the shapes of a land's cells -/
def lndS (sh : List bg_C) (o : Nat) : Prop := bg_nth sh o = some (2, 8, [some (o + 1), some (o + 14), some (o + 15), none, none, none, none, none]) ∧ bg_nth sh (o + 1) = some (14, 12, [some (o + 2), some (o + 3), some (o + 4), some (o + 5), some (o + 6), some (o + 7), some (o + 8), some (o + 9), some (o + 10), some (o + 11), some (o + 12), some (o + 13)]) ∧ (∀ p, p < 12 → bg_nth sh (o + 2 + p) = some (10, 7, [])) ∧ bg_nth sh (o + 14) = some (10, 3, []) ∧ bg_nth sh (o + 15) = some (10, 3, [])
theorem rw_lnd {o k : Nat} (h : k < 12) : bg_nth [some (o + 2), some (o + 3), some (o + 4), some (o + 5), some (o + 6), some (o + 7), some (o + 8), some (o + 9), some (o + 10), some (o + 11), some (o + 12), some (o + 13)] k = some (some (o + 2 + k)) := by
  match k, h with
  | 0, _ => rfl
  | 1, _ => rfl
  | 2, _ => rfl
  | 3, _ => rfl
  | 4, _ => rfl
  | 5, _ => rfl
  | 6, _ => rfl
  | 7, _ => rfl
  | 8, _ => rfl
  | 9, _ => rfl
  | 10, _ => rfl
  | 11, _ => rfl
  | k + 12, h => exact absurd h (by omega)
theorem lnd_6 (n : Nat) : lndS (bg_SH n) 6 := by
  refine ⟨rfl, rfl, fun p hp => ?_, rfl, rfl⟩
  match p, hp with
  | 0, _ => rfl
  | 1, _ => rfl
  | 2, _ => rfl
  | 3, _ => rfl
  | 4, _ => rfl
  | 5, _ => rfl
  | 6, _ => rfl
  | 7, _ => rfl
  | 8, _ => rfl
  | 9, _ => rfl
  | 10, _ => rfl
  | 11, _ => rfl
  | p + 12, h => exact absurd h (by omega)
theorem lnd_22 (n : Nat) : lndS (bg_SH n) 22 := by
  refine ⟨rfl, rfl, fun p hp => ?_, rfl, rfl⟩
  match p, hp with
  | 0, _ => rfl
  | 1, _ => rfl
  | 2, _ => rfl
  | 3, _ => rfl
  | 4, _ => rfl
  | 5, _ => rfl
  | 6, _ => rfl
  | 7, _ => rfl
  | 8, _ => rfl
  | 9, _ => rfl
  | 10, _ => rfl
  | 11, _ => rfl
  | p + 12, h => exact absurd h (by omega)
theorem lnd_76 (n : Nat) : lndS (bg_SH n) 77 := by
  refine ⟨rfl, rfl, fun p hp => ?_, rfl, rfl⟩
  match p, hp with
  | 0, _ => rfl
  | 1, _ => rfl
  | 2, _ => rfl
  | 3, _ => rfl
  | 4, _ => rfl
  | 5, _ => rfl
  | 6, _ => rfl
  | 7, _ => rfl
  | 8, _ => rfl
  | 9, _ => rfl
  | 10, _ => rfl
  | 11, _ => rfl
  | p + 12, h => exact absurd h (by omega)
theorem lnd_95 (n : Nat) : lndS (bg_SH n) 96 := by
  refine ⟨rfl, rfl, fun p hp => ?_, rfl, rfl⟩
  match p, hp with
  | 0, _ => rfl
  | 1, _ => rfl
  | 2, _ => rfl
  | 3, _ => rfl
  | 4, _ => rfl
  | 5, _ => rfl
  | 6, _ => rfl
  | 7, _ => rfl
  | 8, _ => rfl
  | 9, _ => rfl
  | 10, _ => rfl
  | 11, _ => rfl
  | p + 12, h => exact absurd h (by omega)
def frO (o : Nat) (h h' : bg_G) : Prop := ∀ k, (k < o ∨ o + 15 < k) → h' k = h k
theorem frO_trans {o : Nat} {h h1 h2 : bg_G} (a : frO o h h1) (b : frO o h1 h2) : frO o h h2 := fun k hk => by rw [b k hk, a k hk]
theorem s_clear (d o : Nat) (sh : List bg_C) (hs : lndS sh o) (h : bg_G) (Rt : bg_R) (hR : ∀ h' : bg_G, frO o h h' → holdC h' o D0 → Rt none (sh, h')) : bg_Ca bg_MS (d + 2) 30 [vR o] (sh, h) Rt := by
  obtain ⟨s0, s1, s2, s3, s4⟩ := hs
  refine bg_ca (cd := cd_X2_clear) rfl rfl ?_
  intro X hX
  have l1 : ∀ p, p ≤ 12 → ∀ h' : bg_G, frO o h h' → (∀ q : Nat, q < p → ∀ i : Nat, i < 7 → h' (o + 2 + q) i = 0) → X (2, [oR o, oI (p : Int)], [], (sh, h'), (0, 0)) := by
    refine lp_up 12 _ ?_ (fun p hp ih => ?_)
    · intro h' f1 f2
      iterate 2 (refine hX _ ?_; conv => whnf)
      refine hX _ ?_; conv => whnf
      refine ⟨fun q5 => ?_, fun q5 => ?_⟩
      · try simp (disch := omega) only [bg_w_id, Int.toNat_natCast, rw_land, sh_land, not_true_eq_false, s0, s1, s3, s4, kc0, kc1, kc2, kc3, kc4, kc5, kc6, kc7, kc8, kc9, kc10, kc11, kc12, kc13, kc14, kc15, kc16, kc17, kc18, kc19, kc20, kc21, kc22, kc23, kc24, kc25, kc26, kc27, kc28, kc29, kc30, kc31, kc32, kc33] at q5
        refine hX _ ?_; conv => whnf
        refine hX _ ?_; conv => whnf
        try (simp (disch := omega) only [bg_w_id, Int.toNat_natCast, rw_land, sh_land, not_true_eq_false, s0, s1, s3, s4]; try conv => whnf)
        refine hX _ ?_; conv => whnf
        refine hX _ ?_; conv => whnf
        try simp (disch := omega) only [bg_w_id, Int.toNat_natCast, rw_land, sh_land, not_true_eq_false, s0, s1, s3, s4]
        refine s_fill d (o + 14) 3 sh _ _ s3 (by omega) _ (fun h1 g1 g2 => ?_)
        conv => whnf
        refine hX _ ?_; conv => whnf
        refine hX _ ?_; conv => whnf
        try (simp (disch := omega) only [bg_w_id, Int.toNat_natCast, rw_land, sh_land, not_true_eq_false, s0, s1, s3, s4]; try conv => whnf)
        refine hX _ ?_; conv => whnf
        refine hX _ ?_; conv => whnf
        try simp (disch := omega) only [bg_w_id, Int.toNat_natCast, rw_land, sh_land, not_true_eq_false, s0, s1, s3, s4]
        refine s_fill d (o + 15) 3 sh _ _ s4 (by omega) _ (fun h2 k1 k2 => ?_)
        conv => whnf
        iterate 2 (refine hX _ ?_; conv => whnf)
        refine hX _ ?_; conv => whnf
        try (simp (disch := omega) only [bg_w_id, Int.toNat_natCast, rw_land, sh_land, not_true_eq_false, s0, s1, s3, s4, kc0, kc1, kc2, kc3, kc4, kc5, kc6, kc7, kc8, kc9, kc10, kc11, kc12, kc13, kc14, kc15, kc16, kc17, kc18, kc19, kc20, kc21, kc22, kc23, kc24, kc25, kc26, kc27, kc28, kc29, kc30, kc31, kc32, kc33]; try conv => whnf)
        iterate 2 (refine hX _ ?_; conv => whnf)
        refine hX _ ?_; conv => whnf
        try (simp (disch := omega) only [bg_w_id, Int.toNat_natCast, rw_land, sh_land, not_true_eq_false, s0, s1, s3, s4, kc0, kc1, kc2, kc3, kc4, kc5, kc6, kc7, kc8, kc9, kc10, kc11, kc12, kc13, kc14, kc15, kc16, kc17, kc18, kc19, kc20, kc21, kc22, kc23, kc24, kc25, kc26, kc27, kc28, kc29, kc30, kc31, kc32, kc33]; try conv => whnf)
        iterate 2 (refine hX _ ?_; conv => whnf)
        refine hX _ ?_; conv => whnf
        try (simp (disch := omega) only [bg_w_id, Int.toNat_natCast, rw_land, sh_land, not_true_eq_false, s0, s1, s3, s4, kc0, kc1, kc2, kc3, kc4, kc5, kc6, kc7, kc8, kc9, kc10, kc11, kc12, kc13, kc14, kc15, kc16, kc17, kc18, kc19, kc20, kc21, kc22, kc23, kc24, kc25, kc26, kc27, kc28, kc29, kc30, kc31, kc32, kc33]; try conv => whnf)
        iterate 2 (refine hX _ ?_; conv => whnf)
        refine hX _ ?_; conv => whnf
        try (simp (disch := omega) only [bg_w_id, Int.toNat_natCast, rw_land, sh_land, not_true_eq_false, s0, s1, s3, s4, kc0, kc1, kc2, kc3, kc4, kc5, kc6, kc7, kc8, kc9, kc10, kc11, kc12, kc13, kc14, kc15, kc16, kc17, kc18, kc19, kc20, kc21, kc22, kc23, kc24, kc25, kc26, kc27, kc28, kc29, kc30, kc31, kc32, kc33]; try conv => whnf)
        iterate 2 (refine hX _ ?_; conv => whnf)
        refine hX _ ?_; conv => whnf
        try (simp (disch := omega) only [bg_w_id, Int.toNat_natCast, rw_land, sh_land, not_true_eq_false, s0, s1, s3, s4, kc0, kc1, kc2, kc3, kc4, kc5, kc6, kc7, kc8, kc9, kc10, kc11, kc12, kc13, kc14, kc15, kc16, kc17, kc18, kc19, kc20, kc21, kc22, kc23, kc24, kc25, kc26, kc27, kc28, kc29, kc30, kc31, kc32, kc33]; try conv => whnf)
        try simp only [kc0, kc1, kc2, kc3, kc4, kc5, kc6, kc7, kc8, kc9, kc10, kc11, kc12, kc13, kc14, kc15, kc16, kc17, kc18, kc19, kc20, kc21, kc22, kc23, kc24, kc25, kc26, kc27, kc28, kc29, kc30, kc31, kc32, kc33]
        refine hX _ ?_; conv => whnf
        refine hR _ (fun k hk => ?_) ⟨⟨?_, ?_, ?_, ?_, ?_⟩, fun q hq i hi => ?_, fun t ht => ⟨?_, ?_⟩⟩
        · rw [bg_up_ne (by omega), bg_up_ne (by omega), bg_up_ne (by omega), bg_up_ne (by omega), bg_up_ne (by omega), k1 k (by omega), g1 k (by omega)]
          exact f1 k hk
        · rw [bg_up_nj (by decide), bg_up_nj (by decide), bg_up_nj (by decide), bg_up_nj (by decide), bg_up_self]; rfl
        · rw [bg_up_nj (by decide), bg_up_nj (by decide), bg_up_nj (by decide), bg_up_self]; rfl
        · rw [bg_up_nj (by decide), bg_up_nj (by decide), bg_up_self]; rfl
        · rw [bg_up_nj (by decide), bg_up_self]; rfl
        · rw [bg_up_self]; rfl
        · rw [bg_up_ne (by omega), bg_up_ne (by omega), bg_up_ne (by omega), bg_up_ne (by omega), bg_up_ne (by omega), k1 _ (by omega), g1 _ (by omega), f2 q hq i hi]
          exact (gr_no (Nat.zero_le _) i).symm
        · rw [bg_up_ne (by omega), bg_up_ne (by omega), bg_up_ne (by omega), bg_up_ne (by omega), bg_up_ne (by omega), k1 _ (by omega), g2 t (by omega) (by omega)]
          rfl
        · rw [bg_up_ne (by omega), bg_up_ne (by omega), bg_up_ne (by omega), bg_up_ne (by omega), bg_up_ne (by omega), k2 t (by omega) (by omega)]
          exact (gr_no (Nat.zero_le _) 2).symm
      · exfalso
        (try simp (disch := omega) only [bg_w_id, Int.toNat_natCast, rw_land, sh_land, not_true_eq_false, s0, s1, s3, s4, kc0, kc1, kc2, kc3, kc4, kc5, kc6, kc7, kc8, kc9, kc10, kc11, kc12, kc13, kc14, kc15, kc16, kc17, kc18, kc19, kc20, kc21, kc22, kc23, kc24, kc25, kc26, kc27, kc28, kc29, kc30, kc31, kc32, kc33] at q5) <;> (omega)
    · intro h' f1 f2
      iterate 2 (refine hX _ ?_; conv => whnf)
      refine hX _ ?_; conv => whnf
      refine ⟨fun q5 => ?_, fun q5 => ?_⟩
      · exfalso
        (try simp (disch := omega) only [bg_w_id, Int.toNat_natCast, rw_land, sh_land, not_true_eq_false, s0, s1, rw_lnd, kc0, kc1, kc2, kc3, kc4, kc5, kc6, kc7, kc8, kc9, kc10, kc11, kc12, kc13, kc14, kc15, kc16, kc17, kc18, kc19, kc20, kc21, kc22, kc23, kc24, kc25, kc26, kc27, kc28, kc29, kc30, kc31, kc32, kc33] at q5) <;> (omega)
      · try simp (disch := omega) only [bg_w_id, Int.toNat_natCast, rw_land, sh_land, not_true_eq_false, s0, s1, rw_lnd, kc0, kc1, kc2, kc3, kc4, kc5, kc6, kc7, kc8, kc9, kc10, kc11, kc12, kc13, kc14, kc15, kc16, kc17, kc18, kc19, kc20, kc21, kc22, kc23, kc24, kc25, kc26, kc27, kc28, kc29, kc30, kc31, kc32, kc33] at q5
        refine hX _ ?_; conv => whnf
        refine hX _ ?_; conv => whnf
        try (simp (disch := omega) only [bg_w_id, Int.toNat_natCast, rw_land, sh_land, not_true_eq_false, s0, s1, rw_lnd]; try conv => whnf)
        refine hX _ ?_; conv => whnf
        refine hX _ ?_; conv => whnf
        try (simp (disch := omega) only [bg_w_id, Int.toNat_natCast, rw_land, sh_land, not_true_eq_false, s0, s1, rw_lnd]; try conv => whnf)
        refine ⟨by first | omega | (simp (disch := omega) only [bg_w_id, Int.toNat_natCast, rw_land, sh_land, not_true_eq_false, s0, s1, rw_lnd]; omega), ?_⟩
        try (simp (disch := omega) only [bg_w_id, Int.toNat_natCast, rw_land, sh_land, not_true_eq_false, s0, s1, rw_lnd])
        try conv => whnf
        refine hX _ ?_; conv => whnf
        refine hX _ ?_; conv => whnf
        try simp (disch := omega) only [bg_w_id, Int.toNat_natCast, rw_land, sh_land, not_true_eq_false, s0, s1, rw_lnd]
        refine s_fill d (o + 2 + p) 7 sh _ _ (s2 p hp) (by omega) _ (fun h1 g1 g2 => ?_)
        conv => whnf
        iterate 2 (refine hX _ ?_; conv => whnf)
        refine ih h1 (fun k hk => ?_) (fun q hq i hi => ?_)
        · rw [g1 k (by omega)]; exact f1 k hk
        · by_cases e : q = p
          · subst e; exact g2 i (by omega) (by omega)
          · rw [g1 _ (by omega)]; exact f2 q (by omega) i hi
  iterate 2 (refine hX _ ?_; conv => whnf)
  exact l1 0 (by omega) h (fun _ _ => rfl) (fun q hq => absurd hq (by omega))
theorem s_hasPathD (d n : Nat) (p : Int) (h : bg_G) (Rt : bg_R) (hp : i32 p) (hn : 0 ≤ h 6 3 ∧ h 6 3 ≤ 12) (hR : Rt (some (.inl (if 0 ≤ p ∧ p < h 6 3 then 1 else 0))) (bg_SH n, h)) : bg_Ca bg_MS (d + 1) 36 [vR 6, vI p] (bg_SH n, h) Rt := by
  refine bg_ca (cd := cd_X2_hasPath) rfl rfl ?_
  intro X hX
  refine hX _ ?_; conv => whnf
  refine hX _ ?_; conv => whnf
  refine ⟨fun q1 => ?_, fun q1 => ?_⟩
  · first
    | (exfalso; (try simp (disch := omega) only [bg_w_id, Int.toNat_natCast, rw_land, sh_land, not_true_eq_false, kc0, kc1, kc2, kc3, kc4, kc5, kc6, kc7, kc8, kc9, kc10, kc11, kc12, kc13, kc14, kc15, kc16, kc17, kc18, kc19, kc20, kc21, kc22, kc23, kc24, kc25, kc26, kc27, kc28, kc29, kc30, kc31, kc32, kc33] at q1) <;> omega)
    | (try simp (disch := omega) only [bg_w_id, Int.toNat_natCast, rw_land, sh_land, not_true_eq_false, kc0, kc1, kc2, kc3, kc4, kc5, kc6, kc7, kc8, kc9, kc10, kc11, kc12, kc13, kc14, kc15, kc16, kc17, kc18, kc19, kc20, kc21, kc22, kc23, kc24, kc25, kc26, kc27, kc28, kc29, kc30, kc31, kc32, kc33] at q1
       refine hX _ ?_; conv => whnf
       refine hX _ ?_; conv => whnf
       first | (rw [if_pos (by omega)] at hR; exact ⟨by omega, hR⟩) | (rw [if_neg (by omega)] at hR; exact ⟨by omega, hR⟩))
  · first
    | (exfalso; (try simp (disch := omega) only [bg_w_id, Int.toNat_natCast, rw_land, sh_land, not_true_eq_false, kc0, kc1, kc2, kc3, kc4, kc5, kc6, kc7, kc8, kc9, kc10, kc11, kc12, kc13, kc14, kc15, kc16, kc17, kc18, kc19, kc20, kc21, kc22, kc23, kc24, kc25, kc26, kc27, kc28, kc29, kc30, kc31, kc32, kc33] at q1) <;> omega)
    | (try simp (disch := omega) only [bg_w_id, Int.toNat_natCast, rw_land, sh_land, not_true_eq_false, kc0, kc1, kc2, kc3, kc4, kc5, kc6, kc7, kc8, kc9, kc10, kc11, kc12, kc13, kc14, kc15, kc16, kc17, kc18, kc19, kc20, kc21, kc22, kc23, kc24, kc25, kc26, kc27, kc28, kc29, kc30, kc31, kc32, kc33] at q1
       iterate 3 (refine hX _ ?_; conv => whnf)
       try simp only [kc0, kc1, kc2, kc3, kc4, kc5, kc6, kc7, kc8, kc9, kc10, kc11, kc12, kc13, kc14, kc15, kc16, kc17, kc18, kc19, kc20, kc21, kc22, kc23, kc24, kc25, kc26, kc27, kc28, kc29, kc30, kc31, kc32, kc33]
       refine hX _ ?_; conv => whnf
       refine ⟨fun q9 => ?_, fun q9 => ?_⟩
       · first
         | (exfalso; (try simp (disch := omega) only [bg_w_id, Int.toNat_natCast, rw_land, sh_land, not_true_eq_false, kc0, kc1, kc2, kc3, kc4, kc5, kc6, kc7, kc8, kc9, kc10, kc11, kc12, kc13, kc14, kc15, kc16, kc17, kc18, kc19, kc20, kc21, kc22, kc23, kc24, kc25, kc26, kc27, kc28, kc29, kc30, kc31, kc32, kc33] at q9) <;> omega)
         | (try simp (disch := omega) only [bg_w_id, Int.toNat_natCast, rw_land, sh_land, not_true_eq_false, kc0, kc1, kc2, kc3, kc4, kc5, kc6, kc7, kc8, kc9, kc10, kc11, kc12, kc13, kc14, kc15, kc16, kc17, kc18, kc19, kc20, kc21, kc22, kc23, kc24, kc25, kc26, kc27, kc28, kc29, kc30, kc31, kc32, kc33] at q9
            refine hX _ ?_; conv => whnf
            refine hX _ ?_; conv => whnf
            first | (rw [if_pos (by omega)] at hR; exact ⟨by omega, hR⟩) | (rw [if_neg (by omega)] at hR; exact ⟨by omega, hR⟩))
       · first
         | (exfalso; (try simp (disch := omega) only [bg_w_id, Int.toNat_natCast, rw_land, sh_land, not_true_eq_false, kc0, kc1, kc2, kc3, kc4, kc5, kc6, kc7, kc8, kc9, kc10, kc11, kc12, kc13, kc14, kc15, kc16, kc17, kc18, kc19, kc20, kc21, kc22, kc23, kc24, kc25, kc26, kc27, kc28, kc29, kc30, kc31, kc32, kc33] at q9) <;> omega)
         | (try simp (disch := omega) only [bg_w_id, Int.toNat_natCast, rw_land, sh_land, not_true_eq_false, kc0, kc1, kc2, kc3, kc4, kc5, kc6, kc7, kc8, kc9, kc10, kc11, kc12, kc13, kc14, kc15, kc16, kc17, kc18, kc19, kc20, kc21, kc22, kc23, kc24, kc25, kc26, kc27, kc28, kc29, kc30, kc31, kc32, kc33] at q9
            iterate 2 (refine hX _ ?_; conv => whnf)
            refine hX _ ?_; conv => whnf
            refine ⟨fun q15 => ?_, fun q15 => ?_⟩
            · first
              | (exfalso; (try simp (disch := omega) only [bg_w_id, Int.toNat_natCast, rw_land, sh_land, not_true_eq_false, kc0, kc1, kc2, kc3, kc4, kc5, kc6, kc7, kc8, kc9, kc10, kc11, kc12, kc13, kc14, kc15, kc16, kc17, kc18, kc19, kc20, kc21, kc22, kc23, kc24, kc25, kc26, kc27, kc28, kc29, kc30, kc31, kc32, kc33] at q15) <;> omega)
              | (try simp (disch := omega) only [bg_w_id, Int.toNat_natCast, rw_land, sh_land, not_true_eq_false, kc0, kc1, kc2, kc3, kc4, kc5, kc6, kc7, kc8, kc9, kc10, kc11, kc12, kc13, kc14, kc15, kc16, kc17, kc18, kc19, kc20, kc21, kc22, kc23, kc24, kc25, kc26, kc27, kc28, kc29, kc30, kc31, kc32, kc33] at q15
                 refine hX _ ?_; conv => whnf
                 refine hX _ ?_; conv => whnf
                 first | (rw [if_pos (by omega)] at hR; exact ⟨by omega, hR⟩) | (rw [if_neg (by omega)] at hR; exact ⟨by omega, hR⟩))
            · first
              | (exfalso; (try simp (disch := omega) only [bg_w_id, Int.toNat_natCast, rw_land, sh_land, not_true_eq_false, kc0, kc1, kc2, kc3, kc4, kc5, kc6, kc7, kc8, kc9, kc10, kc11, kc12, kc13, kc14, kc15, kc16, kc17, kc18, kc19, kc20, kc21, kc22, kc23, kc24, kc25, kc26, kc27, kc28, kc29, kc30, kc31, kc32, kc33] at q15) <;> omega)
              | (try simp (disch := omega) only [bg_w_id, Int.toNat_natCast, rw_land, sh_land, not_true_eq_false, kc0, kc1, kc2, kc3, kc4, kc5, kc6, kc7, kc8, kc9, kc10, kc11, kc12, kc13, kc14, kc15, kc16, kc17, kc18, kc19, kc20, kc21, kc22, kc23, kc24, kc25, kc26, kc27, kc28, kc29, kc30, kc31, kc32, kc33] at q15
                 iterate 2 (refine hX _ ?_; conv => whnf)
                 refine hX _ ?_; conv => whnf
                 first | (rw [if_pos (by omega)] at hR; exact ⟨by omega, hR⟩) | (rw [if_neg (by omega)] at hR; exact ⟨by omega, hR⟩))))
theorem s_takesNumber (d n : Nat) (c x : Int) (hc : i32 c) (hx : 0 ≤ x ∧ x ≤ 999) (D : LD) (h : bg_G) (hD : holdC h 6 D) (Rt : bg_R) (hR : ∀ h' : bg_G, frO 6 h h' → (∀ D', tk c 1 [x] D = some D' → c ≠ 112 → c ≠ 116 → holdC h' 6 D' → Rt (some (.inl 1)) (bg_SH n, h')) ∧ ((c = 112 ∨ c = 116 ∨ tk c 1 [x] D = none) → Rt (some (.inl 0)) (bg_SH n, h'))) : bg_Ca bg_MS (d + 1) 33 [vR 6, vI c, vI x] (bg_SH n, h) Rt := by
  obtain ⟨⟨a1, a2, a3, a4, a5⟩, b, e⟩ := hD
  have up : ∀ (j v : Int), frO 6 h (bg_up h 6 j v) := fun j v k hk => by rw [bg_up_ne (by omega)]
  refine bg_ca (cd := cd_X2_takesNumber) rfl rfl ?_
  intro X hX
  refine hX _ ?_; conv => whnf
  refine hX _ ?_; conv => whnf
  refine ⟨fun q1_99 => ?_, fun n1_99 => ?_⟩
  · try simp (disch := omega) only [bg_w_id, Int.toNat_natCast, rw_land, sh_land, not_true_eq_false, kc0, kc1, kc2, kc3, kc4, kc5, kc6, kc7, kc8, kc9, kc10, kc11, kc12, kc13, kc14, kc15, kc16, kc17, kc18, kc19, kc20, kc21, kc22, kc23, kc24, kc25, kc26, kc27, kc28, kc29, kc30, kc31, kc32, kc33] at q1_99
    conv => whnf
    iterate 5 (refine hX _ ?_; conv => whnf)
    try simp only [kc0, kc1, kc2, kc3, kc4, kc5, kc6, kc7, kc8, kc9, kc10, kc11, kc12, kc13, kc14, kc15, kc16, kc17, kc18, kc19, kc20, kc21, kc22, kc23, kc24, kc25, kc26, kc27, kc28, kc29, kc30, kc31, kc32, kc33]
    refine hX _ ?_; conv => whnf
    refine ⟨fun q45 => ?_, fun q45 => ?_⟩
    · try simp (disch := omega) only [bg_w_id, Int.toNat_natCast, rw_land, sh_land, not_true_eq_false, kc0, kc1, kc2, kc3, kc4, kc5, kc6, kc7, kc8, kc9, kc10, kc11, kc12, kc13, kc14, kc15, kc16, kc17, kc18, kc19, kc20, kc21, kc22, kc23, kc24, kc25, kc26, kc27, kc28, kc29, kc30, kc31, kc32, kc33] at q45
      refine hX _ ?_; conv => whnf
      refine hX _ ?_; conv => whnf
      first
      | exact ⟨by omega, (hR _ (up _ _)).2 (Or.inr (Or.inr (by unfold tk; rw [if_neg (by omega), if_neg (by omega), if_pos rfl, if_pos (by omega), if_neg (show ¬ gl [x] 0 ≤ 300 from (show ¬ x ≤ 300 by omega))])))⟩
      | (refine ⟨by omega, (hR _ (up _ _)).1 (D.1, D.2.1, x, D.2.2.2) (by unfold tk; rw [if_neg (by omega), if_neg (by omega), if_pos rfl, if_pos (by omega), if_pos (show gl [x] 0 ≤ 300 from (show x ≤ 300 by omega))]; rfl) (by omega) (by omega) ⟨⟨?_, ?_, ?_, ?_, ?_⟩, fun p hp i hi => ?_, fun t ht => ?_⟩⟩
         · rw [bg_up_nj (by decide)]; exact a1
         · rw [bg_up_nj (by decide)]; exact a2
         · rw [bg_up_self]
         · rw [bg_up_nj (by decide)]; exact a4
         · rw [bg_up_nj (by decide)]; exact a5
         · rw [bg_up_ne (by omega)]; exact b p hp i hi
         · rw [bg_up_ne (by omega), bg_up_ne (by omega)]; exact e t ht)
    · try simp (disch := omega) only [bg_w_id, Int.toNat_natCast, rw_land, sh_land, not_true_eq_false, kc0, kc1, kc2, kc3, kc4, kc5, kc6, kc7, kc8, kc9, kc10, kc11, kc12, kc13, kc14, kc15, kc16, kc17, kc18, kc19, kc20, kc21, kc22, kc23, kc24, kc25, kc26, kc27, kc28, kc29, kc30, kc31, kc32, kc33] at q45
      iterate 2 (refine hX _ ?_; conv => whnf)
      refine hX _ ?_; conv => whnf
      first
      | exact ⟨by omega, (hR _ (up _ _)).2 (Or.inr (Or.inr (by unfold tk; rw [if_neg (by omega), if_neg (by omega), if_pos rfl, if_pos (by omega), if_neg (show ¬ gl [x] 0 ≤ 300 from (show ¬ x ≤ 300 by omega))])))⟩
      | (refine ⟨by omega, (hR _ (up _ _)).1 (D.1, D.2.1, x, D.2.2.2) (by unfold tk; rw [if_neg (by omega), if_neg (by omega), if_pos rfl, if_pos (by omega), if_pos (show gl [x] 0 ≤ 300 from (show x ≤ 300 by omega))]; rfl) (by omega) (by omega) ⟨⟨?_, ?_, ?_, ?_, ?_⟩, fun p hp i hi => ?_, fun t ht => ?_⟩⟩
         · rw [bg_up_nj (by decide)]; exact a1
         · rw [bg_up_nj (by decide)]; exact a2
         · rw [bg_up_self]
         · rw [bg_up_nj (by decide)]; exact a4
         · rw [bg_up_nj (by decide)]; exact a5
         · rw [bg_up_ne (by omega)]; exact b p hp i hi
         · rw [bg_up_ne (by omega), bg_up_ne (by omega)]; exact e t ht)
  try simp (disch := omega) only [bg_w_id, Int.toNat_natCast, rw_land, sh_land, not_true_eq_false, kc0, kc1, kc2, kc3, kc4, kc5, kc6, kc7, kc8, kc9, kc10, kc11, kc12, kc13, kc14, kc15, kc16, kc17, kc18, kc19, kc20, kc21, kc22, kc23, kc24, kc25, kc26, kc27, kc28, kc29, kc30, kc31, kc32, kc33] at n1_99
  conv => whnf
  refine ⟨fun q1_111 => ?_, fun n1_111 => ?_⟩
  · try simp (disch := omega) only [bg_w_id, Int.toNat_natCast, rw_land, sh_land, not_true_eq_false, kc0, kc1, kc2, kc3, kc4, kc5, kc6, kc7, kc8, kc9, kc10, kc11, kc12, kc13, kc14, kc15, kc16, kc17, kc18, kc19, kc20, kc21, kc22, kc23, kc24, kc25, kc26, kc27, kc28, kc29, kc30, kc31, kc32, kc33] at q1_111
    conv => whnf
    iterate 4 (refine hX _ ?_; conv => whnf)
    try simp only [kc0, kc1, kc2, kc3, kc4, kc5, kc6, kc7, kc8, kc9, kc10, kc11, kc12, kc13, kc14, kc15, kc16, kc17, kc18, kc19, kc20, kc21, kc22, kc23, kc24, kc25, kc26, kc27, kc28, kc29, kc30, kc31, kc32, kc33]
    refine hX _ ?_; conv => whnf
    refine ⟨by omega, (hR _ (up _ _)).1 (D.1, D.2.1, D.2.2.1, D.2.2.2.1, x) (by unfold tk; rw [if_neg (by omega), if_neg (by omega), if_pos rfl, if_neg (by omega), if_neg (by omega), if_pos (by omega)]; rfl) (by omega) (by omega) ⟨⟨?_, ?_, ?_, ?_, ?_⟩, fun p hp i hi => ?_, fun t ht => ?_⟩⟩
    · rw [bg_up_nj (by decide)]; exact a1
    · rw [bg_up_nj (by decide)]; exact a2
    · rw [bg_up_nj (by decide)]; exact a3
    · rw [bg_up_nj (by decide)]; exact a4
    · rw [bg_up_self]
    · rw [bg_up_ne (by omega)]; exact b p hp i hi
    · rw [bg_up_ne (by omega), bg_up_ne (by omega)]; exact e t ht
  try simp (disch := omega) only [bg_w_id, Int.toNat_natCast, rw_land, sh_land, not_true_eq_false, kc0, kc1, kc2, kc3, kc4, kc5, kc6, kc7, kc8, kc9, kc10, kc11, kc12, kc13, kc14, kc15, kc16, kc17, kc18, kc19, kc20, kc21, kc22, kc23, kc24, kc25, kc26, kc27, kc28, kc29, kc30, kc31, kc32, kc33] at n1_111
  conv => whnf
  refine ⟨fun q1_118 => ?_, fun n1_118 => ?_⟩
  · try simp (disch := omega) only [bg_w_id, Int.toNat_natCast, rw_land, sh_land, not_true_eq_false, kc0, kc1, kc2, kc3, kc4, kc5, kc6, kc7, kc8, kc9, kc10, kc11, kc12, kc13, kc14, kc15, kc16, kc17, kc18, kc19, kc20, kc21, kc22, kc23, kc24, kc25, kc26, kc27, kc28, kc29, kc30, kc31, kc32, kc33] at q1_118
    conv => whnf
    iterate 4 (refine hX _ ?_; conv => whnf)
    try simp only [kc0, kc1, kc2, kc3, kc4, kc5, kc6, kc7, kc8, kc9, kc10, kc11, kc12, kc13, kc14, kc15, kc16, kc17, kc18, kc19, kc20, kc21, kc22, kc23, kc24, kc25, kc26, kc27, kc28, kc29, kc30, kc31, kc32, kc33]
    refine hX _ ?_; conv => whnf
    refine ⟨by omega, (hR _ (up _ _)).1 (D.1, D.2.1, D.2.2.1, x, D.2.2.2.2) (by unfold tk; rw [if_neg (by omega), if_neg (by omega), if_pos rfl, if_neg (by omega), if_pos (by omega)]; rfl) (by omega) (by omega) ⟨⟨?_, ?_, ?_, ?_, ?_⟩, fun p hp i hi => ?_, fun t ht => ?_⟩⟩
    · rw [bg_up_nj (by decide)]; exact a1
    · rw [bg_up_nj (by decide)]; exact a2
    · rw [bg_up_nj (by decide)]; exact a3
    · rw [bg_up_self]
    · rw [bg_up_nj (by decide)]; exact a5
    · rw [bg_up_ne (by omega)]; exact b p hp i hi
    · rw [bg_up_ne (by omega), bg_up_ne (by omega)]; exact e t ht
  try simp (disch := omega) only [bg_w_id, Int.toNat_natCast, rw_land, sh_land, not_true_eq_false, kc0, kc1, kc2, kc3, kc4, kc5, kc6, kc7, kc8, kc9, kc10, kc11, kc12, kc13, kc14, kc15, kc16, kc17, kc18, kc19, kc20, kc21, kc22, kc23, kc24, kc25, kc26, kc27, kc28, kc29, kc30, kc31, kc32, kc33] at n1_118
  conv => whnf
  refine hX _ ?_; conv => whnf
  refine hX _ ?_; conv => whnf
  refine ⟨by omega, (hR h (fun _ _ => rfl)).2 ?_⟩
  by_cases c1 : c = 112
  · exact Or.inl c1
  · by_cases c2 : c = 116
    · exact Or.inr (Or.inl c2)
    · exact Or.inr (Or.inr (by unfold tk; rw [if_neg c1, if_neg c2, if_pos rfl, if_neg (by omega), if_neg (by omega), if_neg (by omega)]))
theorem rw_drf {k : Nat} (h : k < 12) : bg_nth [some 8, some 9, some 10, some 11, some 12, some 13, some 14, some 15, some 16, some 17, some 18, some 19] k = some (some (8 + k)) := rw_lnd (o := 6) h
theorem sh_drf {n k : Nat} (h : k < 12) : bg_nth (bg_SH n) (8 + k) = some (10, 7, []) := (lnd_6 n).2.2.1 k h
/-- the limits of a path's numbers -/
def limC (h : bg_G) : Prop := ∀ i : Nat, i < 7 → h 1 i = lim i
theorem lim_rg : ∀ i : Nat, i < 7 → 0 ≤ lim i ∧ lim i ≤ 999 := by decide
theorem s_takesPath (d n : Nat) (l : List Int) (hl : ∀ x ∈ l, 0 ≤ x ∧ x ≤ 999) (D : LD) (hD1 : D.1.length ≤ 12) (h : bg_G) (hD : holdC h 6 D) (hm : limC h) (h5 : ∀ i : Nat, i < 7 → h 5 i = gl l i) (Rt : bg_R) (hR1 : okP l → D.1.length < 12 → ∀ h' : bg_G, frO 6 h h' → holdC h' 6 (D.1 ++ [l], D.2) → Rt (some (.inl 1)) (bg_SH n, h')) (hR0 : ¬ (okP l ∧ D.1.length < 12) → ∀ h' : bg_G, frO 6 h h' → Rt (some (.inl 0)) (bg_SH n, h')) : bg_Ca bg_MS (d + 1) 34 [vR 6, vR 5] (bg_SH n, h) Rt := by
  obtain ⟨⟨a1, a2, a3, a4, a5⟩, b, e⟩ := id hD
  obtain ⟨c, hc⟩ : ∃ c : Nat, c = D.1.length := ⟨_, rfl⟩
  rw [← hc] at a1 hR1 hR0 hD1
  have g0 := gl_rg hl 0
  have g1 := gl_rg hl 1
  have e0 : h 5 0 = gl l 0 := h5 0 (by omega)
  have e1 : h 5 1 = gl l 1 := h5 1 (by omega)
  refine bg_ca (cd := cd_X2_takesPath) rfl rfl ?_
  intro X hX
  by_cases c1 : c < 12
  · by_cases c2 : gl l 0 = gl l 1
    · iterate 3 (refine hX _ ?_; conv => whnf)
      try simp only [kc0, kc1, kc2, kc3, kc4, kc5, kc6, kc7, kc8, kc9, kc10, kc11, kc12, kc13, kc14, kc15, kc16, kc17, kc18, kc19, kc20, kc21, kc22, kc23, kc24, kc25, kc26, kc27, kc28, kc29, kc30, kc31, kc32, kc33]
      refine hX _ ?_; conv => whnf
      refine ⟨fun q6 => ?_, fun q6 => ?_⟩
      · exfalso
        (try simp (disch := omega) only [bg_w_id, Int.toNat_natCast, rw_land, sh_land, not_true_eq_false, a1, e0, e1, kc0, kc1, kc2, kc3, kc4, kc5, kc6, kc7, kc8, kc9, kc10, kc11, kc12, kc13, kc14, kc15, kc16, kc17, kc18, kc19, kc20, kc21, kc22, kc23, kc24, kc25, kc26, kc27, kc28, kc29, kc30, kc31, kc32, kc33] at q6) <;> (omega)
      · try simp (disch := omega) only [bg_w_id, Int.toNat_natCast, rw_land, sh_land, not_true_eq_false, a1, e0, e1, kc0, kc1, kc2, kc3, kc4, kc5, kc6, kc7, kc8, kc9, kc10, kc11, kc12, kc13, kc14, kc15, kc16, kc17, kc18, kc19, kc20, kc21, kc22, kc23, kc24, kc25, kc26, kc27, kc28, kc29, kc30, kc31, kc32, kc33] at q6
        iterate 2 (refine hX _ ?_; conv => whnf)
        refine hX _ ?_; conv => whnf
        try (simp (disch := omega) only [bg_w_id, Int.toNat_natCast, rw_land, sh_land, not_true_eq_false, a1, e0, e1]; try conv => whnf)
        refine ⟨by first | omega | (simp (disch := omega) only [bg_w_id, Int.toNat_natCast, rw_land, sh_land, not_true_eq_false, a1, e0, e1]; omega), ?_⟩
        iterate 2 (refine hX _ ?_; conv => whnf)
        refine hX _ ?_; conv => whnf
        try (simp (disch := omega) only [bg_w_id, Int.toNat_natCast, rw_land, sh_land, not_true_eq_false, a1, e0, e1]; try conv => whnf)
        refine ⟨by first | omega | (simp (disch := omega) only [bg_w_id, Int.toNat_natCast, rw_land, sh_land, not_true_eq_false, a1, e0, e1]; omega), ?_⟩
        refine hX _ ?_; conv => whnf
        refine ⟨fun q15 => ?_, fun q15 => ?_⟩
        · exfalso
          (try simp (disch := omega) only [bg_w_id, Int.toNat_natCast, rw_land, sh_land, not_true_eq_false, a1, e0, e1, kc0, kc1, kc2, kc3, kc4, kc5, kc6, kc7, kc8, kc9, kc10, kc11, kc12, kc13, kc14, kc15, kc16, kc17, kc18, kc19, kc20, kc21, kc22, kc23, kc24, kc25, kc26, kc27, kc28, kc29, kc30, kc31, kc32, kc33] at q15) <;> (omega)
        · try simp (disch := omega) only [bg_w_id, Int.toNat_natCast, rw_land, sh_land, not_true_eq_false, a1, e0, e1, kc0, kc1, kc2, kc3, kc4, kc5, kc6, kc7, kc8, kc9, kc10, kc11, kc12, kc13, kc14, kc15, kc16, kc17, kc18, kc19, kc20, kc21, kc22, kc23, kc24, kc25, kc26, kc27, kc28, kc29, kc30, kc31, kc32, kc33] at q15
          refine hX _ ?_; conv => whnf
          refine hX _ ?_; conv => whnf
          exact ⟨by omega, hR0 (fun x => x.1.1 c2) h (fun _ _ => rfl)⟩
    · have l1 : ∀ i, i ≤ 7 → ∀ h' : bg_G, (∀ k, k ≠ 8 + c → h' k = h k) → (∀ j : Nat, j < i → h' (8 + c) j = gl l j ∧ gl l j ≤ lim j) → X (22, [oR 6, oR 5, oI (i : Int)], [], (bg_SH n, h'), (0, 0)) := by
        refine lp_up 7 _ ?_ (fun i hi ih => ?_)
        · intro h' f1 f2
          have e6 : h' 6 = h 6 := f1 6 (by omega)
          have a1' : h' 6 3 = (c : Int) := by rw [e6]; exact a1
          iterate 2 (refine hX _ ?_; conv => whnf)
          refine hX _ ?_; conv => whnf
          refine ⟨fun q25 => ?_, fun q25 => ?_⟩
          · try simp (disch := omega) only [bg_w_id, Int.toNat_natCast, rw_land, sh_land, not_true_eq_false, kc0, kc1, kc2, kc3, kc4, kc5, kc6, kc7, kc8, kc9, kc10, kc11, kc12, kc13, kc14, kc15, kc16, kc17, kc18, kc19, kc20, kc21, kc22, kc23, kc24, kc25, kc26, kc27, kc28, kc29, kc30, kc31, kc32, kc33] at q25
            iterate 7 (refine hX _ ?_; conv => whnf)
            try simp only [kc0, kc1, kc2, kc3, kc4, kc5, kc6, kc7, kc8, kc9, kc10, kc11, kc12, kc13, kc14, kc15, kc16, kc17, kc18, kc19, kc20, kc21, kc22, kc23, kc24, kc25, kc26, kc27, kc28, kc29, kc30, kc31, kc32, kc33]
            refine hX _ ?_; conv => whnf
            rw [a1']
            refine ⟨by omega, hR1 ⟨c2, fun i hi => (f2 i hi).2⟩ c1 _ (fun k hk => ?_) ⟨⟨?_, ?_, ?_, ?_, ?_⟩, fun p hp i hi => ?_, fun t ht => ?_⟩⟩
            · rw [bg_up_ne (by omega), f1 k (by omega)]
            · rw [bg_up_self]
              show (c : Int) + 1 = ((D.1 ++ [l]).length : Nat)
              simp
              omega
            · rw [bg_up_nj (by decide), e6]; exact a2
            · rw [bg_up_nj (by decide), e6]; exact a3
            · rw [bg_up_nj (by decide), e6]; exact a4
            · rw [bg_up_nj (by decide), e6]; exact a5
            · show _ = gr (D.1 ++ [l]) p i
              rw [bg_up_ne (by omega), gr_snoc]
              by_cases x : p = c
              · rw [if_neg (by omega), if_pos (by omega), show 6 + 2 + p = 8 + c by omega]
                exact (f2 i hi).1
              · rw [f1 _ (by omega), b p hp i hi]
                by_cases y : p < D.1.length
                · rw [if_pos y]
                · rw [if_neg y, if_neg (by omega), gr_no (by omega)]
            · rw [bg_up_ne (by omega), bg_up_ne (by omega), f1 _ (by omega), f1 _ (by omega)]; exact e t ht
          · exfalso
            (try simp (disch := omega) only [bg_w_id, Int.toNat_natCast, rw_land, sh_land, not_true_eq_false, kc0, kc1, kc2, kc3, kc4, kc5, kc6, kc7, kc8, kc9, kc10, kc11, kc12, kc13, kc14, kc15, kc16, kc17, kc18, kc19, kc20, kc21, kc22, kc23, kc24, kc25, kc26, kc27, kc28, kc29, kc30, kc31, kc32, kc33] at q25) <;> (omega)
        · intro h' f1 f2
          have e6 : h' 6 = h 6 := f1 6 (by omega)
          have a1' : h' 6 3 = (c : Int) := by rw [e6]; exact a1
          have e5 : h' 5 (i : Int) = gl l i := by rw [f1 5 (by omega)]; exact h5 i hi
          have em : h' 1 (i : Int) = lim i := by rw [f1 1 (by omega)]; exact hm i hi
          have gi := gl_rg hl i
          have li := lim_rg i hi
          by_cases c3 : gl l i ≤ lim i
          · iterate 2 (refine hX _ ?_; conv => whnf)
            refine hX _ ?_; conv => whnf
            refine ⟨fun q25 => ?_, fun q25 => ?_⟩
            · exfalso
              (try simp (disch := omega) only [bg_w_id, Int.toNat_natCast, rw_land, sh_land, not_true_eq_false, a1', rw_drf, sh_drf, e5, em, kc0, kc1, kc2, kc3, kc4, kc5, kc6, kc7, kc8, kc9, kc10, kc11, kc12, kc13, kc14, kc15, kc16, kc17, kc18, kc19, kc20, kc21, kc22, kc23, kc24, kc25, kc26, kc27, kc28, kc29, kc30, kc31, kc32, kc33] at q25) <;> (omega)
            · try simp (disch := omega) only [bg_w_id, Int.toNat_natCast, rw_land, sh_land, not_true_eq_false, a1', rw_drf, sh_drf, e5, em, kc0, kc1, kc2, kc3, kc4, kc5, kc6, kc7, kc8, kc9, kc10, kc11, kc12, kc13, kc14, kc15, kc16, kc17, kc18, kc19, kc20, kc21, kc22, kc23, kc24, kc25, kc26, kc27, kc28, kc29, kc30, kc31, kc32, kc33] at q25
              iterate 2 (refine hX _ ?_; conv => whnf)
              refine hX _ ?_; conv => whnf
              try (simp (disch := omega) only [bg_w_id, Int.toNat_natCast, rw_land, sh_land, not_true_eq_false, a1', rw_drf, sh_drf, e5, em]; try conv => whnf)
              refine ⟨by first | omega | (simp (disch := omega) only [bg_w_id, Int.toNat_natCast, rw_land, sh_land, not_true_eq_false, a1', rw_drf, sh_drf, e5, em]; omega), ?_⟩
              iterate 2 (refine hX _ ?_; conv => whnf)
              refine hX _ ?_; conv => whnf
              try (simp (disch := omega) only [bg_w_id, Int.toNat_natCast, rw_land, sh_land, not_true_eq_false, a1', rw_drf, sh_drf, e5, em]; try conv => whnf)
              refine ⟨by first | omega | (simp (disch := omega) only [bg_w_id, Int.toNat_natCast, rw_land, sh_land, not_true_eq_false, a1', rw_drf, sh_drf, e5, em]; omega), ?_⟩
              refine hX _ ?_; conv => whnf
              refine ⟨fun q36 => ?_, fun q36 => ?_⟩
              · try simp (disch := omega) only [bg_w_id, Int.toNat_natCast, rw_land, sh_land, not_true_eq_false, a1', rw_drf, sh_drf, e5, em, kc0, kc1, kc2, kc3, kc4, kc5, kc6, kc7, kc8, kc9, kc10, kc11, kc12, kc13, kc14, kc15, kc16, kc17, kc18, kc19, kc20, kc21, kc22, kc23, kc24, kc25, kc26, kc27, kc28, kc29, kc30, kc31, kc32, kc33] at q36
                iterate 4 (refine hX _ ?_; conv => whnf)
                refine hX _ ?_; conv => whnf
                try (simp (disch := omega) only [bg_w_id, Int.toNat_natCast, rw_land, sh_land, not_true_eq_false, a1', rw_drf, sh_drf, e5, em, kc0, kc1, kc2, kc3, kc4, kc5, kc6, kc7, kc8, kc9, kc10, kc11, kc12, kc13, kc14, kc15, kc16, kc17, kc18, kc19, kc20, kc21, kc22, kc23, kc24, kc25, kc26, kc27, kc28, kc29, kc30, kc31, kc32, kc33]; try conv => whnf)
                refine ⟨by first | omega | (simp (disch := omega) only [bg_w_id, Int.toNat_natCast, rw_land, sh_land, not_true_eq_false, a1', rw_drf, sh_drf, e5, em, kc0, kc1, kc2, kc3, kc4, kc5, kc6, kc7, kc8, kc9, kc10, kc11, kc12, kc13, kc14, kc15, kc16, kc17, kc18, kc19, kc20, kc21, kc22, kc23, kc24, kc25, kc26, kc27, kc28, kc29, kc30, kc31, kc32, kc33]; omega), ?_⟩
                try (simp (disch := omega) only [bg_w_id, Int.toNat_natCast, rw_land, sh_land, not_true_eq_false, a1', rw_drf, sh_drf, e5, em, kc0, kc1, kc2, kc3, kc4, kc5, kc6, kc7, kc8, kc9, kc10, kc11, kc12, kc13, kc14, kc15, kc16, kc17, kc18, kc19, kc20, kc21, kc22, kc23, kc24, kc25, kc26, kc27, kc28, kc29, kc30, kc31, kc32, kc33])
                try conv => whnf
                iterate 3 (refine hX _ ?_; conv => whnf)
                refine hX _ ?_; conv => whnf
                try (simp (disch := omega) only [bg_w_id, Int.toNat_natCast, rw_land, sh_land, not_true_eq_false, a1', rw_drf, sh_drf, e5, em, kc0, kc1, kc2, kc3, kc4, kc5, kc6, kc7, kc8, kc9, kc10, kc11, kc12, kc13, kc14, kc15, kc16, kc17, kc18, kc19, kc20, kc21, kc22, kc23, kc24, kc25, kc26, kc27, kc28, kc29, kc30, kc31, kc32, kc33]; try conv => whnf)
                refine ⟨by first | omega | (simp (disch := omega) only [bg_w_id, Int.toNat_natCast, rw_land, sh_land, not_true_eq_false, a1', rw_drf, sh_drf, e5, em, kc0, kc1, kc2, kc3, kc4, kc5, kc6, kc7, kc8, kc9, kc10, kc11, kc12, kc13, kc14, kc15, kc16, kc17, kc18, kc19, kc20, kc21, kc22, kc23, kc24, kc25, kc26, kc27, kc28, kc29, kc30, kc31, kc32, kc33]; omega), ?_⟩
                refine hX _ ?_; conv => whnf
                try (simp (disch := omega) only [bg_w_id, Int.toNat_natCast, rw_land, sh_land, not_true_eq_false, a1', rw_drf, sh_drf, e5, em, kc0, kc1, kc2, kc3, kc4, kc5, kc6, kc7, kc8, kc9, kc10, kc11, kc12, kc13, kc14, kc15, kc16, kc17, kc18, kc19, kc20, kc21, kc22, kc23, kc24, kc25, kc26, kc27, kc28, kc29, kc30, kc31, kc32, kc33]; try conv => whnf)
                refine ⟨by first | omega | (simp (disch := omega) only [bg_w_id, Int.toNat_natCast, rw_land, sh_land, not_true_eq_false, a1', rw_drf, sh_drf, e5, em, kc0, kc1, kc2, kc3, kc4, kc5, kc6, kc7, kc8, kc9, kc10, kc11, kc12, kc13, kc14, kc15, kc16, kc17, kc18, kc19, kc20, kc21, kc22, kc23, kc24, kc25, kc26, kc27, kc28, kc29, kc30, kc31, kc32, kc33]; omega), ?_⟩
                iterate 2 (refine hX _ ?_; conv => whnf)
                try simp only [kc0, kc1, kc2, kc3, kc4, kc5, kc6, kc7, kc8, kc9, kc10, kc11, kc12, kc13, kc14, kc15, kc16, kc17, kc18, kc19, kc20, kc21, kc22, kc23, kc24, kc25, kc26, kc27, kc28, kc29, kc30, kc31, kc32, kc33]
                refine ih _ (fun k hk => ?_) (fun j hj => ?_)
                · rw [bg_up_ne hk]; exact f1 k hk
                · rw [bg_up_at]
                  by_cases x : j = i
                  · subst x
                    rw [if_pos rfl]
                    exact ⟨by first | rfl | exact e5, c3⟩
                  · rw [if_neg (by omega)]
                    exact f2 j (by omega)
              · exfalso
                (try simp (disch := omega) only [bg_w_id, Int.toNat_natCast, rw_land, sh_land, not_true_eq_false, a1', rw_drf, sh_drf, e5, em, kc0, kc1, kc2, kc3, kc4, kc5, kc6, kc7, kc8, kc9, kc10, kc11, kc12, kc13, kc14, kc15, kc16, kc17, kc18, kc19, kc20, kc21, kc22, kc23, kc24, kc25, kc26, kc27, kc28, kc29, kc30, kc31, kc32, kc33] at q36) <;> (omega)
          · iterate 2 (refine hX _ ?_; conv => whnf)
            refine hX _ ?_; conv => whnf
            refine ⟨fun q25 => ?_, fun q25 => ?_⟩
            · exfalso
              (try simp (disch := omega) only [bg_w_id, Int.toNat_natCast, rw_land, sh_land, not_true_eq_false, a1', rw_drf, sh_drf, e5, em, kc0, kc1, kc2, kc3, kc4, kc5, kc6, kc7, kc8, kc9, kc10, kc11, kc12, kc13, kc14, kc15, kc16, kc17, kc18, kc19, kc20, kc21, kc22, kc23, kc24, kc25, kc26, kc27, kc28, kc29, kc30, kc31, kc32, kc33] at q25) <;> (omega)
            · try simp (disch := omega) only [bg_w_id, Int.toNat_natCast, rw_land, sh_land, not_true_eq_false, a1', rw_drf, sh_drf, e5, em, kc0, kc1, kc2, kc3, kc4, kc5, kc6, kc7, kc8, kc9, kc10, kc11, kc12, kc13, kc14, kc15, kc16, kc17, kc18, kc19, kc20, kc21, kc22, kc23, kc24, kc25, kc26, kc27, kc28, kc29, kc30, kc31, kc32, kc33] at q25
              iterate 2 (refine hX _ ?_; conv => whnf)
              refine hX _ ?_; conv => whnf
              try (simp (disch := omega) only [bg_w_id, Int.toNat_natCast, rw_land, sh_land, not_true_eq_false, a1', rw_drf, sh_drf, e5, em]; try conv => whnf)
              refine ⟨by first | omega | (simp (disch := omega) only [bg_w_id, Int.toNat_natCast, rw_land, sh_land, not_true_eq_false, a1', rw_drf, sh_drf, e5, em]; omega), ?_⟩
              iterate 2 (refine hX _ ?_; conv => whnf)
              refine hX _ ?_; conv => whnf
              try (simp (disch := omega) only [bg_w_id, Int.toNat_natCast, rw_land, sh_land, not_true_eq_false, a1', rw_drf, sh_drf, e5, em]; try conv => whnf)
              refine ⟨by first | omega | (simp (disch := omega) only [bg_w_id, Int.toNat_natCast, rw_land, sh_land, not_true_eq_false, a1', rw_drf, sh_drf, e5, em]; omega), ?_⟩
              refine hX _ ?_; conv => whnf
              refine ⟨fun q36 => ?_, fun q36 => ?_⟩
              · exfalso
                (try simp (disch := omega) only [bg_w_id, Int.toNat_natCast, rw_land, sh_land, not_true_eq_false, a1', rw_drf, sh_drf, e5, em, kc0, kc1, kc2, kc3, kc4, kc5, kc6, kc7, kc8, kc9, kc10, kc11, kc12, kc13, kc14, kc15, kc16, kc17, kc18, kc19, kc20, kc21, kc22, kc23, kc24, kc25, kc26, kc27, kc28, kc29, kc30, kc31, kc32, kc33] at q36) <;> (omega)
              · try simp (disch := omega) only [bg_w_id, Int.toNat_natCast, rw_land, sh_land, not_true_eq_false, a1', rw_drf, sh_drf, e5, em, kc0, kc1, kc2, kc3, kc4, kc5, kc6, kc7, kc8, kc9, kc10, kc11, kc12, kc13, kc14, kc15, kc16, kc17, kc18, kc19, kc20, kc21, kc22, kc23, kc24, kc25, kc26, kc27, kc28, kc29, kc30, kc31, kc32, kc33] at q36
                refine hX _ ?_; conv => whnf
                refine hX _ ?_; conv => whnf
                exact ⟨by omega, hR0 (fun x => c3 (x.1.2 i hi)) h' (fun k hk => f1 k (by omega))⟩
      iterate 3 (refine hX _ ?_; conv => whnf)
      try simp only [kc0, kc1, kc2, kc3, kc4, kc5, kc6, kc7, kc8, kc9, kc10, kc11, kc12, kc13, kc14, kc15, kc16, kc17, kc18, kc19, kc20, kc21, kc22, kc23, kc24, kc25, kc26, kc27, kc28, kc29, kc30, kc31, kc32, kc33]
      refine hX _ ?_; conv => whnf
      refine ⟨fun q6 => ?_, fun q6 => ?_⟩
      · exfalso
        (try simp (disch := omega) only [bg_w_id, Int.toNat_natCast, rw_land, sh_land, not_true_eq_false, a1, e0, e1, kc0, kc1, kc2, kc3, kc4, kc5, kc6, kc7, kc8, kc9, kc10, kc11, kc12, kc13, kc14, kc15, kc16, kc17, kc18, kc19, kc20, kc21, kc22, kc23, kc24, kc25, kc26, kc27, kc28, kc29, kc30, kc31, kc32, kc33] at q6) <;> (omega)
      · try simp (disch := omega) only [bg_w_id, Int.toNat_natCast, rw_land, sh_land, not_true_eq_false, a1, e0, e1, kc0, kc1, kc2, kc3, kc4, kc5, kc6, kc7, kc8, kc9, kc10, kc11, kc12, kc13, kc14, kc15, kc16, kc17, kc18, kc19, kc20, kc21, kc22, kc23, kc24, kc25, kc26, kc27, kc28, kc29, kc30, kc31, kc32, kc33] at q6
        iterate 2 (refine hX _ ?_; conv => whnf)
        refine hX _ ?_; conv => whnf
        try (simp (disch := omega) only [bg_w_id, Int.toNat_natCast, rw_land, sh_land, not_true_eq_false, a1, e0, e1]; try conv => whnf)
        refine ⟨by first | omega | (simp (disch := omega) only [bg_w_id, Int.toNat_natCast, rw_land, sh_land, not_true_eq_false, a1, e0, e1]; omega), ?_⟩
        iterate 2 (refine hX _ ?_; conv => whnf)
        refine hX _ ?_; conv => whnf
        try (simp (disch := omega) only [bg_w_id, Int.toNat_natCast, rw_land, sh_land, not_true_eq_false, a1, e0, e1]; try conv => whnf)
        refine ⟨by first | omega | (simp (disch := omega) only [bg_w_id, Int.toNat_natCast, rw_land, sh_land, not_true_eq_false, a1, e0, e1]; omega), ?_⟩
        refine hX _ ?_; conv => whnf
        refine ⟨fun q15 => ?_, fun q15 => ?_⟩
        · try simp (disch := omega) only [bg_w_id, Int.toNat_natCast, rw_land, sh_land, not_true_eq_false, a1, e0, e1, kc0, kc1, kc2, kc3, kc4, kc5, kc6, kc7, kc8, kc9, kc10, kc11, kc12, kc13, kc14, kc15, kc16, kc17, kc18, kc19, kc20, kc21, kc22, kc23, kc24, kc25, kc26, kc27, kc28, kc29, kc30, kc31, kc32, kc33] at q15
          iterate 2 (refine hX _ ?_; conv => whnf)
          exact l1 0 (by omega) h (fun _ _ => rfl) (fun j hj => absurd hj (by omega))
        · exfalso
          (try simp (disch := omega) only [bg_w_id, Int.toNat_natCast, rw_land, sh_land, not_true_eq_false, a1, e0, e1, kc0, kc1, kc2, kc3, kc4, kc5, kc6, kc7, kc8, kc9, kc10, kc11, kc12, kc13, kc14, kc15, kc16, kc17, kc18, kc19, kc20, kc21, kc22, kc23, kc24, kc25, kc26, kc27, kc28, kc29, kc30, kc31, kc32, kc33] at q15) <;> (omega)
  · iterate 3 (refine hX _ ?_; conv => whnf)
    try simp only [kc0, kc1, kc2, kc3, kc4, kc5, kc6, kc7, kc8, kc9, kc10, kc11, kc12, kc13, kc14, kc15, kc16, kc17, kc18, kc19, kc20, kc21, kc22, kc23, kc24, kc25, kc26, kc27, kc28, kc29, kc30, kc31, kc32, kc33]
    refine hX _ ?_; conv => whnf
    refine ⟨fun q6 => ?_, fun q6 => ?_⟩
    · try simp (disch := omega) only [bg_w_id, Int.toNat_natCast, rw_land, sh_land, not_true_eq_false, a1, kc0, kc1, kc2, kc3, kc4, kc5, kc6, kc7, kc8, kc9, kc10, kc11, kc12, kc13, kc14, kc15, kc16, kc17, kc18, kc19, kc20, kc21, kc22, kc23, kc24, kc25, kc26, kc27, kc28, kc29, kc30, kc31, kc32, kc33] at q6
      refine hX _ ?_; conv => whnf
      refine hX _ ?_; conv => whnf
      exact ⟨by omega, hR0 (fun x => c1 x.2) h (fun _ _ => rfl)⟩
    · exfalso
      (try simp (disch := omega) only [bg_w_id, Int.toNat_natCast, rw_land, sh_land, not_true_eq_false, a1, kc0, kc1, kc2, kc3, kc4, kc5, kc6, kc7, kc8, kc9, kc10, kc11, kc12, kc13, kc14, kc15, kc16, kc17, kc18, kc19, kc20, kc21, kc22, kc23, kc24, kc25, kc26, kc27, kc28, kc29, kc30, kc31, kc32, kc33] at q6) <;> (omega)
theorem s_takesTower (d n : Nat) (x y w : Int) (hx : 0 ≤ x ∧ x ≤ 999) (hy : 0 ≤ y ∧ y ≤ 999) (hw : 0 ≤ w ∧ w ≤ 999) (l : List Int) (hl : gl l 0 = x ∧ gl l 1 = y ∧ gl l 2 = w) (D : LD) (hD1 : D.1.length ≤ 12) (hD2 : D.2.1.length ≤ 3) (h : bg_G) (hD : holdC h 6 D) (Rt : bg_R) (hR1 : (x < D.1.length ∧ y < D.1.length ∧ x ≠ y ∧ w ≤ 20) ∧ D.2.1.length < 3 → ∀ h' : bg_G, frO 6 h h' → holdC h' 6 (D.1, D.2.1 ++ [l], D.2.2) → Rt (some (.inl 1)) (bg_SH n, h')) (hR0 : ¬ ((x < D.1.length ∧ y < D.1.length ∧ x ≠ y ∧ w ≤ 20) ∧ D.2.1.length < 3) → Rt (some (.inl 0)) (bg_SH n, h)) : bg_Ca bg_MS (d + 2) 35 [vR 6, vI x, vI y, vI w] (bg_SH n, h) Rt := by
  obtain ⟨⟨a1, a2, a3, a4, a5⟩, b, e⟩ := id hD
  obtain ⟨c, hc⟩ : ∃ c : Nat, c = D.1.length := ⟨_, rfl⟩
  obtain ⟨t, ht⟩ : ∃ t : Nat, t = D.2.1.length := ⟨_, rfl⟩
  rw [← hc] at a1 hR1 hR0 hD1
  rw [← ht] at a2 hR1 hR0 hD2
  have hn : 0 ≤ h 6 3 ∧ h 6 3 ≤ 12 := by omega
  refine bg_ca (cd := cd_X2_takesTower) rfl rfl ?_
  intro X hX
  by_cases c1 : t < 3
  · by_cases c2 : x = y
    · iterate 3 (refine hX _ ?_; conv => whnf)
      try simp only [kc0, kc1, kc2, kc3, kc4, kc5, kc6, kc7, kc8, kc9, kc10, kc11, kc12, kc13, kc14, kc15, kc16, kc17, kc18, kc19, kc20, kc21, kc22, kc23, kc24, kc25, kc26, kc27, kc28, kc29, kc30, kc31, kc32, kc33]
      refine hX _ ?_; conv => whnf
      refine ⟨fun q5 => ?_, fun q5 => ?_⟩
      · exfalso
        (try simp (disch := omega) only [bg_w_id, Int.toNat_natCast, rw_land, sh_land, not_true_eq_false, a2, kc0, kc1, kc2, kc3, kc4, kc5, kc6, kc7, kc8, kc9, kc10, kc11, kc12, kc13, kc14, kc15, kc16, kc17, kc18, kc19, kc20, kc21, kc22, kc23, kc24, kc25, kc26, kc27, kc28, kc29, kc30, kc31, kc32, kc33] at q5) <;> (omega)
      · try simp (disch := omega) only [bg_w_id, Int.toNat_natCast, rw_land, sh_land, not_true_eq_false, a2, kc0, kc1, kc2, kc3, kc4, kc5, kc6, kc7, kc8, kc9, kc10, kc11, kc12, kc13, kc14, kc15, kc16, kc17, kc18, kc19, kc20, kc21, kc22, kc23, kc24, kc25, kc26, kc27, kc28, kc29, kc30, kc31, kc32, kc33] at q5
        iterate 2 (refine hX _ ?_; conv => whnf)
        refine hX _ ?_; conv => whnf
        refine ⟨fun q10 => ?_, fun q10 => ?_⟩
        · try simp (disch := omega) only [bg_w_id, Int.toNat_natCast, rw_land, sh_land, not_true_eq_false, a2, kc0, kc1, kc2, kc3, kc4, kc5, kc6, kc7, kc8, kc9, kc10, kc11, kc12, kc13, kc14, kc15, kc16, kc17, kc18, kc19, kc20, kc21, kc22, kc23, kc24, kc25, kc26, kc27, kc28, kc29, kc30, kc31, kc32, kc33] at q10
          refine hX _ ?_; conv => whnf
          refine hX _ ?_; conv => whnf
          exact ⟨by omega, hR0 (fun z => z.1.2.2.1 c2)⟩
        · exfalso
          (try simp (disch := omega) only [bg_w_id, Int.toNat_natCast, rw_land, sh_land, not_true_eq_false, a2, kc0, kc1, kc2, kc3, kc4, kc5, kc6, kc7, kc8, kc9, kc10, kc11, kc12, kc13, kc14, kc15, kc16, kc17, kc18, kc19, kc20, kc21, kc22, kc23, kc24, kc25, kc26, kc27, kc28, kc29, kc30, kc31, kc32, kc33] at q10) <;> (omega)
    · by_cases c3 : w ≤ 20
      · by_cases c4 : x < (c : Int)
        · by_cases c5 : y < (c : Int)
          · iterate 3 (refine hX _ ?_; conv => whnf)
            try simp only [kc0, kc1, kc2, kc3, kc4, kc5, kc6, kc7, kc8, kc9, kc10, kc11, kc12, kc13, kc14, kc15, kc16, kc17, kc18, kc19, kc20, kc21, kc22, kc23, kc24, kc25, kc26, kc27, kc28, kc29, kc30, kc31, kc32, kc33]
            refine hX _ ?_; conv => whnf
            refine ⟨fun q5 => ?_, fun q5 => ?_⟩
            · exfalso
              (try simp (disch := omega) only [bg_w_id, Int.toNat_natCast, rw_land, sh_land, not_true_eq_false, a2, bg_up_ne, kc0, kc1, kc2, kc3, kc4, kc5, kc6, kc7, kc8, kc9, kc10, kc11, kc12, kc13, kc14, kc15, kc16, kc17, kc18, kc19, kc20, kc21, kc22, kc23, kc24, kc25, kc26, kc27, kc28, kc29, kc30, kc31, kc32, kc33] at q5) <;> (omega)
            · try simp (disch := omega) only [bg_w_id, Int.toNat_natCast, rw_land, sh_land, not_true_eq_false, a2, bg_up_ne, kc0, kc1, kc2, kc3, kc4, kc5, kc6, kc7, kc8, kc9, kc10, kc11, kc12, kc13, kc14, kc15, kc16, kc17, kc18, kc19, kc20, kc21, kc22, kc23, kc24, kc25, kc26, kc27, kc28, kc29, kc30, kc31, kc32, kc33] at q5
              iterate 2 (refine hX _ ?_; conv => whnf)
              refine hX _ ?_; conv => whnf
              refine ⟨fun q10 => ?_, fun q10 => ?_⟩
              · exfalso
                (try simp (disch := omega) only [bg_w_id, Int.toNat_natCast, rw_land, sh_land, not_true_eq_false, a2, bg_up_ne, kc0, kc1, kc2, kc3, kc4, kc5, kc6, kc7, kc8, kc9, kc10, kc11, kc12, kc13, kc14, kc15, kc16, kc17, kc18, kc19, kc20, kc21, kc22, kc23, kc24, kc25, kc26, kc27, kc28, kc29, kc30, kc31, kc32, kc33] at q10) <;> (omega)
              · try simp (disch := omega) only [bg_w_id, Int.toNat_natCast, rw_land, sh_land, not_true_eq_false, a2, bg_up_ne, kc0, kc1, kc2, kc3, kc4, kc5, kc6, kc7, kc8, kc9, kc10, kc11, kc12, kc13, kc14, kc15, kc16, kc17, kc18, kc19, kc20, kc21, kc22, kc23, kc24, kc25, kc26, kc27, kc28, kc29, kc30, kc31, kc32, kc33] at q10
                iterate 2 (refine hX _ ?_; conv => whnf)
                refine hX _ ?_; conv => whnf
                refine ⟨fun q16 => ?_, fun q16 => ?_⟩
                · exfalso
                  (try simp (disch := omega) only [bg_w_id, Int.toNat_natCast, rw_land, sh_land, not_true_eq_false, a2, bg_up_ne, kc0, kc1, kc2, kc3, kc4, kc5, kc6, kc7, kc8, kc9, kc10, kc11, kc12, kc13, kc14, kc15, kc16, kc17, kc18, kc19, kc20, kc21, kc22, kc23, kc24, kc25, kc26, kc27, kc28, kc29, kc30, kc31, kc32, kc33] at q16) <;> (omega)
                · try simp (disch := omega) only [bg_w_id, Int.toNat_natCast, rw_land, sh_land, not_true_eq_false, a2, bg_up_ne, kc0, kc1, kc2, kc3, kc4, kc5, kc6, kc7, kc8, kc9, kc10, kc11, kc12, kc13, kc14, kc15, kc16, kc17, kc18, kc19, kc20, kc21, kc22, kc23, kc24, kc25, kc26, kc27, kc28, kc29, kc30, kc31, kc32, kc33] at q16
                  iterate 2 (refine hX _ ?_; conv => whnf)
                  refine hX _ ?_; conv => whnf
                  try simp (disch := omega) only [bg_w_id, Int.toNat_natCast, rw_land, sh_land, not_true_eq_false, a2, bg_up_ne]
                  refine s_hasPathD d n x h _ (by omega) hn ?_
                  rw [a1, if_pos (by omega)]
                  conv => whnf
                  refine hX _ ?_; conv => whnf
                  refine ⟨fun q24 => ?_, fun q24 => ?_⟩
                  · exfalso
                    (try simp (disch := omega) only [bg_w_id, Int.toNat_natCast, rw_land, sh_land, not_true_eq_false, a2, bg_up_ne, kc0, kc1, kc2, kc3, kc4, kc5, kc6, kc7, kc8, kc9, kc10, kc11, kc12, kc13, kc14, kc15, kc16, kc17, kc18, kc19, kc20, kc21, kc22, kc23, kc24, kc25, kc26, kc27, kc28, kc29, kc30, kc31, kc32, kc33] at q24) <;> (omega)
                  · try simp (disch := omega) only [bg_w_id, Int.toNat_natCast, rw_land, sh_land, not_true_eq_false, a2, bg_up_ne, kc0, kc1, kc2, kc3, kc4, kc5, kc6, kc7, kc8, kc9, kc10, kc11, kc12, kc13, kc14, kc15, kc16, kc17, kc18, kc19, kc20, kc21, kc22, kc23, kc24, kc25, kc26, kc27, kc28, kc29, kc30, kc31, kc32, kc33] at q24
                    iterate 2 (refine hX _ ?_; conv => whnf)
                    refine hX _ ?_; conv => whnf
                    try simp (disch := omega) only [bg_w_id, Int.toNat_natCast, rw_land, sh_land, not_true_eq_false, a2, bg_up_ne]
                    refine s_hasPathD d n y h _ (by omega) hn ?_
                    rw [a1, if_pos (by omega)]
                    conv => whnf
                    refine hX _ ?_; conv => whnf
                    refine ⟨fun q32 => ?_, fun q32 => ?_⟩
                    · try simp (disch := omega) only [bg_w_id, Int.toNat_natCast, rw_land, sh_land, not_true_eq_false, a2, bg_up_ne, kc0, kc1, kc2, kc3, kc4, kc5, kc6, kc7, kc8, kc9, kc10, kc11, kc12, kc13, kc14, kc15, kc16, kc17, kc18, kc19, kc20, kc21, kc22, kc23, kc24, kc25, kc26, kc27, kc28, kc29, kc30, kc31, kc32, kc33] at q32
                      iterate 11 (refine hX _ ?_; conv => whnf)
                      refine hX _ ?_; conv => whnf
                      try (simp (disch := omega) only [bg_w_id, Int.toNat_natCast, rw_land, sh_land, not_true_eq_false, a2, bg_up_ne, kc0, kc1, kc2, kc3, kc4, kc5, kc6, kc7, kc8, kc9, kc10, kc11, kc12, kc13, kc14, kc15, kc16, kc17, kc18, kc19, kc20, kc21, kc22, kc23, kc24, kc25, kc26, kc27, kc28, kc29, kc30, kc31, kc32, kc33]; try conv => whnf)
                      refine ⟨by first | omega | (simp (disch := omega) only [bg_w_id, Int.toNat_natCast, rw_land, sh_land, not_true_eq_false, a2, bg_up_ne, kc0, kc1, kc2, kc3, kc4, kc5, kc6, kc7, kc8, kc9, kc10, kc11, kc12, kc13, kc14, kc15, kc16, kc17, kc18, kc19, kc20, kc21, kc22, kc23, kc24, kc25, kc26, kc27, kc28, kc29, kc30, kc31, kc32, kc33]; omega), ?_⟩
                      iterate 5 (refine hX _ ?_; conv => whnf)
                      refine hX _ ?_; conv => whnf
                      try (simp (disch := omega) only [bg_w_id, Int.toNat_natCast, rw_land, sh_land, not_true_eq_false, a2, bg_up_ne, kc0, kc1, kc2, kc3, kc4, kc5, kc6, kc7, kc8, kc9, kc10, kc11, kc12, kc13, kc14, kc15, kc16, kc17, kc18, kc19, kc20, kc21, kc22, kc23, kc24, kc25, kc26, kc27, kc28, kc29, kc30, kc31, kc32, kc33]; try conv => whnf)
                      refine ⟨by first | omega | (simp (disch := omega) only [bg_w_id, Int.toNat_natCast, rw_land, sh_land, not_true_eq_false, a2, bg_up_ne, kc0, kc1, kc2, kc3, kc4, kc5, kc6, kc7, kc8, kc9, kc10, kc11, kc12, kc13, kc14, kc15, kc16, kc17, kc18, kc19, kc20, kc21, kc22, kc23, kc24, kc25, kc26, kc27, kc28, kc29, kc30, kc31, kc32, kc33]; omega), ?_⟩
                      iterate 7 (refine hX _ ?_; conv => whnf)
                      try simp only [kc0, kc1, kc2, kc3, kc4, kc5, kc6, kc7, kc8, kc9, kc10, kc11, kc12, kc13, kc14, kc15, kc16, kc17, kc18, kc19, kc20, kc21, kc22, kc23, kc24, kc25, kc26, kc27, kc28, kc29, kc30, kc31, kc32, kc33]
                      refine hX _ ?_; conv => whnf
                      first
                      | (refine ⟨by omega, hR1 ⟨⟨c4, c5, c2, c3⟩, c1⟩ _ (fun k hk => ?_) ⟨⟨?_, ?_, ?_, ?_, ?_⟩, fun p hp i hi => ?_, fun u hu => ⟨?_, ?_⟩⟩⟩
                         · rw [bg_up_ne (by omega), bg_up_ne (by omega), bg_up_ne (by omega)]
                         · rw [bg_up_nj (by decide), bg_up_ne (by omega), bg_up_ne (by omega)]; exact a1.trans (by rw [hc])
                         · rw [bg_up_self]
                           simp (disch := omega) only [bg_up_ne, a2]
                           show (t : Int) + 1 = ((D.2.1 ++ [l]).length : Nat)
                           simp
                           omega
                         · rw [bg_up_nj (by decide), bg_up_ne (by omega), bg_up_ne (by omega)]; exact a3
                         · rw [bg_up_nj (by decide), bg_up_ne (by omega), bg_up_ne (by omega)]; exact a4
                         · rw [bg_up_nj (by decide), bg_up_ne (by omega), bg_up_ne (by omega)]; exact a5
                         · rw [bg_up_ne (by omega), bg_up_ne (by omega), bg_up_ne (by omega)]; exact b p hp i hi
                         · show _ = gs (D.2.1 ++ [l]) u
                           unfold gs
                           rw [bg_up_ne (by omega), bg_up_ne (by omega), bg_up_at, gr_snoc, gr_snoc]
                           have eu := (e u hu).1
                           unfold gs at eu
                           by_cases z1 : u = t
                           · rw [if_pos (by omega), if_pos (by simp; omega), if_neg (by omega), if_pos (by omega), if_neg (by omega), if_pos (by omega), hl.1, hl.2.1]
                           · rw [if_neg (by omega), eu]
                             by_cases z2 : u < D.2.1.length
                             · rw [if_pos z2, if_pos (by simp; omega), if_pos z2, if_pos z2]
                             · rw [if_neg z2, if_neg (by simp; omega)]
                         · show _ = gr (D.2.1 ++ [l]) u 2
                           rw [bg_up_ne (by omega), bg_up_at, gr_snoc]
                           have eu := (e u hu).2
                           by_cases z1 : u = t
                           · rw [if_pos (by omega), if_neg (by omega), if_pos (by omega), hl.2.2]
                           · rw [if_neg (by omega), bg_up_ne (by omega), eu]
                             by_cases z2 : u < D.2.1.length
                             · rw [if_pos z2]
                             · rw [if_neg z2, if_neg (by omega), gr_no (by omega)])
                    · exfalso
                      (try simp (disch := omega) only [bg_w_id, Int.toNat_natCast, rw_land, sh_land, not_true_eq_false, a2, bg_up_ne, kc0, kc1, kc2, kc3, kc4, kc5, kc6, kc7, kc8, kc9, kc10, kc11, kc12, kc13, kc14, kc15, kc16, kc17, kc18, kc19, kc20, kc21, kc22, kc23, kc24, kc25, kc26, kc27, kc28, kc29, kc30, kc31, kc32, kc33] at q32) <;> (omega)
          · iterate 3 (refine hX _ ?_; conv => whnf)
            try simp only [kc0, kc1, kc2, kc3, kc4, kc5, kc6, kc7, kc8, kc9, kc10, kc11, kc12, kc13, kc14, kc15, kc16, kc17, kc18, kc19, kc20, kc21, kc22, kc23, kc24, kc25, kc26, kc27, kc28, kc29, kc30, kc31, kc32, kc33]
            refine hX _ ?_; conv => whnf
            refine ⟨fun q5 => ?_, fun q5 => ?_⟩
            · exfalso
              (try simp (disch := omega) only [bg_w_id, Int.toNat_natCast, rw_land, sh_land, not_true_eq_false, a2, kc0, kc1, kc2, kc3, kc4, kc5, kc6, kc7, kc8, kc9, kc10, kc11, kc12, kc13, kc14, kc15, kc16, kc17, kc18, kc19, kc20, kc21, kc22, kc23, kc24, kc25, kc26, kc27, kc28, kc29, kc30, kc31, kc32, kc33] at q5) <;> (omega)
            · try simp (disch := omega) only [bg_w_id, Int.toNat_natCast, rw_land, sh_land, not_true_eq_false, a2, kc0, kc1, kc2, kc3, kc4, kc5, kc6, kc7, kc8, kc9, kc10, kc11, kc12, kc13, kc14, kc15, kc16, kc17, kc18, kc19, kc20, kc21, kc22, kc23, kc24, kc25, kc26, kc27, kc28, kc29, kc30, kc31, kc32, kc33] at q5
              iterate 2 (refine hX _ ?_; conv => whnf)
              refine hX _ ?_; conv => whnf
              refine ⟨fun q10 => ?_, fun q10 => ?_⟩
              · exfalso
                (try simp (disch := omega) only [bg_w_id, Int.toNat_natCast, rw_land, sh_land, not_true_eq_false, a2, kc0, kc1, kc2, kc3, kc4, kc5, kc6, kc7, kc8, kc9, kc10, kc11, kc12, kc13, kc14, kc15, kc16, kc17, kc18, kc19, kc20, kc21, kc22, kc23, kc24, kc25, kc26, kc27, kc28, kc29, kc30, kc31, kc32, kc33] at q10) <;> (omega)
              · try simp (disch := omega) only [bg_w_id, Int.toNat_natCast, rw_land, sh_land, not_true_eq_false, a2, kc0, kc1, kc2, kc3, kc4, kc5, kc6, kc7, kc8, kc9, kc10, kc11, kc12, kc13, kc14, kc15, kc16, kc17, kc18, kc19, kc20, kc21, kc22, kc23, kc24, kc25, kc26, kc27, kc28, kc29, kc30, kc31, kc32, kc33] at q10
                iterate 2 (refine hX _ ?_; conv => whnf)
                refine hX _ ?_; conv => whnf
                refine ⟨fun q16 => ?_, fun q16 => ?_⟩
                · exfalso
                  (try simp (disch := omega) only [bg_w_id, Int.toNat_natCast, rw_land, sh_land, not_true_eq_false, a2, kc0, kc1, kc2, kc3, kc4, kc5, kc6, kc7, kc8, kc9, kc10, kc11, kc12, kc13, kc14, kc15, kc16, kc17, kc18, kc19, kc20, kc21, kc22, kc23, kc24, kc25, kc26, kc27, kc28, kc29, kc30, kc31, kc32, kc33] at q16) <;> (omega)
                · try simp (disch := omega) only [bg_w_id, Int.toNat_natCast, rw_land, sh_land, not_true_eq_false, a2, kc0, kc1, kc2, kc3, kc4, kc5, kc6, kc7, kc8, kc9, kc10, kc11, kc12, kc13, kc14, kc15, kc16, kc17, kc18, kc19, kc20, kc21, kc22, kc23, kc24, kc25, kc26, kc27, kc28, kc29, kc30, kc31, kc32, kc33] at q16
                  iterate 2 (refine hX _ ?_; conv => whnf)
                  refine hX _ ?_; conv => whnf
                  try simp (disch := omega) only [bg_w_id, Int.toNat_natCast, rw_land, sh_land, not_true_eq_false, a2]
                  refine s_hasPathD d n x h _ (by omega) hn ?_
                  rw [a1, if_pos (by omega)]
                  conv => whnf
                  refine hX _ ?_; conv => whnf
                  refine ⟨fun q24 => ?_, fun q24 => ?_⟩
                  · exfalso
                    (try simp (disch := omega) only [bg_w_id, Int.toNat_natCast, rw_land, sh_land, not_true_eq_false, a2, kc0, kc1, kc2, kc3, kc4, kc5, kc6, kc7, kc8, kc9, kc10, kc11, kc12, kc13, kc14, kc15, kc16, kc17, kc18, kc19, kc20, kc21, kc22, kc23, kc24, kc25, kc26, kc27, kc28, kc29, kc30, kc31, kc32, kc33] at q24) <;> (omega)
                  · try simp (disch := omega) only [bg_w_id, Int.toNat_natCast, rw_land, sh_land, not_true_eq_false, a2, kc0, kc1, kc2, kc3, kc4, kc5, kc6, kc7, kc8, kc9, kc10, kc11, kc12, kc13, kc14, kc15, kc16, kc17, kc18, kc19, kc20, kc21, kc22, kc23, kc24, kc25, kc26, kc27, kc28, kc29, kc30, kc31, kc32, kc33] at q24
                    iterate 2 (refine hX _ ?_; conv => whnf)
                    refine hX _ ?_; conv => whnf
                    try simp (disch := omega) only [bg_w_id, Int.toNat_natCast, rw_land, sh_land, not_true_eq_false, a2]
                    refine s_hasPathD d n y h _ (by omega) hn ?_
                    rw [a1, if_neg (by omega)]
                    conv => whnf
                    refine hX _ ?_; conv => whnf
                    refine ⟨fun q32 => ?_, fun q32 => ?_⟩
                    · exfalso
                      (try simp (disch := omega) only [bg_w_id, Int.toNat_natCast, rw_land, sh_land, not_true_eq_false, a2, kc0, kc1, kc2, kc3, kc4, kc5, kc6, kc7, kc8, kc9, kc10, kc11, kc12, kc13, kc14, kc15, kc16, kc17, kc18, kc19, kc20, kc21, kc22, kc23, kc24, kc25, kc26, kc27, kc28, kc29, kc30, kc31, kc32, kc33] at q32) <;> (omega)
                    · try simp (disch := omega) only [bg_w_id, Int.toNat_natCast, rw_land, sh_land, not_true_eq_false, a2, kc0, kc1, kc2, kc3, kc4, kc5, kc6, kc7, kc8, kc9, kc10, kc11, kc12, kc13, kc14, kc15, kc16, kc17, kc18, kc19, kc20, kc21, kc22, kc23, kc24, kc25, kc26, kc27, kc28, kc29, kc30, kc31, kc32, kc33] at q32
                      refine hX _ ?_; conv => whnf
                      refine hX _ ?_; conv => whnf
                      exact ⟨by omega, hR0 (fun z => c5 z.1.2.1)⟩
        · iterate 3 (refine hX _ ?_; conv => whnf)
          try simp only [kc0, kc1, kc2, kc3, kc4, kc5, kc6, kc7, kc8, kc9, kc10, kc11, kc12, kc13, kc14, kc15, kc16, kc17, kc18, kc19, kc20, kc21, kc22, kc23, kc24, kc25, kc26, kc27, kc28, kc29, kc30, kc31, kc32, kc33]
          refine hX _ ?_; conv => whnf
          refine ⟨fun q5 => ?_, fun q5 => ?_⟩
          · exfalso
            (try simp (disch := omega) only [bg_w_id, Int.toNat_natCast, rw_land, sh_land, not_true_eq_false, a2, kc0, kc1, kc2, kc3, kc4, kc5, kc6, kc7, kc8, kc9, kc10, kc11, kc12, kc13, kc14, kc15, kc16, kc17, kc18, kc19, kc20, kc21, kc22, kc23, kc24, kc25, kc26, kc27, kc28, kc29, kc30, kc31, kc32, kc33] at q5) <;> (omega)
          · try simp (disch := omega) only [bg_w_id, Int.toNat_natCast, rw_land, sh_land, not_true_eq_false, a2, kc0, kc1, kc2, kc3, kc4, kc5, kc6, kc7, kc8, kc9, kc10, kc11, kc12, kc13, kc14, kc15, kc16, kc17, kc18, kc19, kc20, kc21, kc22, kc23, kc24, kc25, kc26, kc27, kc28, kc29, kc30, kc31, kc32, kc33] at q5
            iterate 2 (refine hX _ ?_; conv => whnf)
            refine hX _ ?_; conv => whnf
            refine ⟨fun q10 => ?_, fun q10 => ?_⟩
            · exfalso
              (try simp (disch := omega) only [bg_w_id, Int.toNat_natCast, rw_land, sh_land, not_true_eq_false, a2, kc0, kc1, kc2, kc3, kc4, kc5, kc6, kc7, kc8, kc9, kc10, kc11, kc12, kc13, kc14, kc15, kc16, kc17, kc18, kc19, kc20, kc21, kc22, kc23, kc24, kc25, kc26, kc27, kc28, kc29, kc30, kc31, kc32, kc33] at q10) <;> (omega)
            · try simp (disch := omega) only [bg_w_id, Int.toNat_natCast, rw_land, sh_land, not_true_eq_false, a2, kc0, kc1, kc2, kc3, kc4, kc5, kc6, kc7, kc8, kc9, kc10, kc11, kc12, kc13, kc14, kc15, kc16, kc17, kc18, kc19, kc20, kc21, kc22, kc23, kc24, kc25, kc26, kc27, kc28, kc29, kc30, kc31, kc32, kc33] at q10
              iterate 2 (refine hX _ ?_; conv => whnf)
              refine hX _ ?_; conv => whnf
              refine ⟨fun q16 => ?_, fun q16 => ?_⟩
              · exfalso
                (try simp (disch := omega) only [bg_w_id, Int.toNat_natCast, rw_land, sh_land, not_true_eq_false, a2, kc0, kc1, kc2, kc3, kc4, kc5, kc6, kc7, kc8, kc9, kc10, kc11, kc12, kc13, kc14, kc15, kc16, kc17, kc18, kc19, kc20, kc21, kc22, kc23, kc24, kc25, kc26, kc27, kc28, kc29, kc30, kc31, kc32, kc33] at q16) <;> (omega)
              · try simp (disch := omega) only [bg_w_id, Int.toNat_natCast, rw_land, sh_land, not_true_eq_false, a2, kc0, kc1, kc2, kc3, kc4, kc5, kc6, kc7, kc8, kc9, kc10, kc11, kc12, kc13, kc14, kc15, kc16, kc17, kc18, kc19, kc20, kc21, kc22, kc23, kc24, kc25, kc26, kc27, kc28, kc29, kc30, kc31, kc32, kc33] at q16
                iterate 2 (refine hX _ ?_; conv => whnf)
                refine hX _ ?_; conv => whnf
                try simp (disch := omega) only [bg_w_id, Int.toNat_natCast, rw_land, sh_land, not_true_eq_false, a2]
                refine s_hasPathD d n x h _ (by omega) hn ?_
                rw [a1, if_neg (by omega)]
                conv => whnf
                refine hX _ ?_; conv => whnf
                refine ⟨fun q24 => ?_, fun q24 => ?_⟩
                · try simp (disch := omega) only [bg_w_id, Int.toNat_natCast, rw_land, sh_land, not_true_eq_false, a2, kc0, kc1, kc2, kc3, kc4, kc5, kc6, kc7, kc8, kc9, kc10, kc11, kc12, kc13, kc14, kc15, kc16, kc17, kc18, kc19, kc20, kc21, kc22, kc23, kc24, kc25, kc26, kc27, kc28, kc29, kc30, kc31, kc32, kc33] at q24
                  refine hX _ ?_; conv => whnf
                  refine hX _ ?_; conv => whnf
                  exact ⟨by omega, hR0 (fun z => c4 z.1.1)⟩
                · exfalso
                  (try simp (disch := omega) only [bg_w_id, Int.toNat_natCast, rw_land, sh_land, not_true_eq_false, a2, kc0, kc1, kc2, kc3, kc4, kc5, kc6, kc7, kc8, kc9, kc10, kc11, kc12, kc13, kc14, kc15, kc16, kc17, kc18, kc19, kc20, kc21, kc22, kc23, kc24, kc25, kc26, kc27, kc28, kc29, kc30, kc31, kc32, kc33] at q24) <;> (omega)
      · iterate 3 (refine hX _ ?_; conv => whnf)
        try simp only [kc0, kc1, kc2, kc3, kc4, kc5, kc6, kc7, kc8, kc9, kc10, kc11, kc12, kc13, kc14, kc15, kc16, kc17, kc18, kc19, kc20, kc21, kc22, kc23, kc24, kc25, kc26, kc27, kc28, kc29, kc30, kc31, kc32, kc33]
        refine hX _ ?_; conv => whnf
        refine ⟨fun q5 => ?_, fun q5 => ?_⟩
        · exfalso
          (try simp (disch := omega) only [bg_w_id, Int.toNat_natCast, rw_land, sh_land, not_true_eq_false, a2, kc0, kc1, kc2, kc3, kc4, kc5, kc6, kc7, kc8, kc9, kc10, kc11, kc12, kc13, kc14, kc15, kc16, kc17, kc18, kc19, kc20, kc21, kc22, kc23, kc24, kc25, kc26, kc27, kc28, kc29, kc30, kc31, kc32, kc33] at q5) <;> (omega)
        · try simp (disch := omega) only [bg_w_id, Int.toNat_natCast, rw_land, sh_land, not_true_eq_false, a2, kc0, kc1, kc2, kc3, kc4, kc5, kc6, kc7, kc8, kc9, kc10, kc11, kc12, kc13, kc14, kc15, kc16, kc17, kc18, kc19, kc20, kc21, kc22, kc23, kc24, kc25, kc26, kc27, kc28, kc29, kc30, kc31, kc32, kc33] at q5
          iterate 2 (refine hX _ ?_; conv => whnf)
          refine hX _ ?_; conv => whnf
          refine ⟨fun q10 => ?_, fun q10 => ?_⟩
          · exfalso
            (try simp (disch := omega) only [bg_w_id, Int.toNat_natCast, rw_land, sh_land, not_true_eq_false, a2, kc0, kc1, kc2, kc3, kc4, kc5, kc6, kc7, kc8, kc9, kc10, kc11, kc12, kc13, kc14, kc15, kc16, kc17, kc18, kc19, kc20, kc21, kc22, kc23, kc24, kc25, kc26, kc27, kc28, kc29, kc30, kc31, kc32, kc33] at q10) <;> (omega)
          · try simp (disch := omega) only [bg_w_id, Int.toNat_natCast, rw_land, sh_land, not_true_eq_false, a2, kc0, kc1, kc2, kc3, kc4, kc5, kc6, kc7, kc8, kc9, kc10, kc11, kc12, kc13, kc14, kc15, kc16, kc17, kc18, kc19, kc20, kc21, kc22, kc23, kc24, kc25, kc26, kc27, kc28, kc29, kc30, kc31, kc32, kc33] at q10
            iterate 2 (refine hX _ ?_; conv => whnf)
            refine hX _ ?_; conv => whnf
            refine ⟨fun q16 => ?_, fun q16 => ?_⟩
            · try simp (disch := omega) only [bg_w_id, Int.toNat_natCast, rw_land, sh_land, not_true_eq_false, a2, kc0, kc1, kc2, kc3, kc4, kc5, kc6, kc7, kc8, kc9, kc10, kc11, kc12, kc13, kc14, kc15, kc16, kc17, kc18, kc19, kc20, kc21, kc22, kc23, kc24, kc25, kc26, kc27, kc28, kc29, kc30, kc31, kc32, kc33] at q16
              refine hX _ ?_; conv => whnf
              refine hX _ ?_; conv => whnf
              exact ⟨by omega, hR0 (fun z => c3 z.1.2.2.2)⟩
            · exfalso
              (try simp (disch := omega) only [bg_w_id, Int.toNat_natCast, rw_land, sh_land, not_true_eq_false, a2, kc0, kc1, kc2, kc3, kc4, kc5, kc6, kc7, kc8, kc9, kc10, kc11, kc12, kc13, kc14, kc15, kc16, kc17, kc18, kc19, kc20, kc21, kc22, kc23, kc24, kc25, kc26, kc27, kc28, kc29, kc30, kc31, kc32, kc33] at q16) <;> (omega)
  · iterate 3 (refine hX _ ?_; conv => whnf)
    try simp only [kc0, kc1, kc2, kc3, kc4, kc5, kc6, kc7, kc8, kc9, kc10, kc11, kc12, kc13, kc14, kc15, kc16, kc17, kc18, kc19, kc20, kc21, kc22, kc23, kc24, kc25, kc26, kc27, kc28, kc29, kc30, kc31, kc32, kc33]
    refine hX _ ?_; conv => whnf
    refine ⟨fun q5 => ?_, fun q5 => ?_⟩
    · try simp (disch := omega) only [bg_w_id, Int.toNat_natCast, rw_land, sh_land, not_true_eq_false, a2, kc0, kc1, kc2, kc3, kc4, kc5, kc6, kc7, kc8, kc9, kc10, kc11, kc12, kc13, kc14, kc15, kc16, kc17, kc18, kc19, kc20, kc21, kc22, kc23, kc24, kc25, kc26, kc27, kc28, kc29, kc30, kc31, kc32, kc33] at q5
      refine hX _ ?_; conv => whnf
      refine hX _ ?_; conv => whnf
      exact ⟨by omega, hR0 (fun z => c1 z.2)⟩
    · exfalso
      (try simp (disch := omega) only [bg_w_id, Int.toNat_natCast, rw_land, sh_land, not_true_eq_false, a2, kc0, kc1, kc2, kc3, kc4, kc5, kc6, kc7, kc8, kc9, kc10, kc11, kc12, kc13, kc14, kc15, kc16, kc17, kc18, kc19, kc20, kc21, kc22, kc23, kc24, kc25, kc26, kc27, kc28, kc29, kc30, kc31, kc32, kc33] at q5) <;> (omega)
