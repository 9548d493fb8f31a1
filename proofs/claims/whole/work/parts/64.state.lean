/-! lands and lots copied; the class surveys a land -/
theorem cpy_at (h : bg_G) (ks kd : Nat) (sp dp n j : Int) : bg_cpy h ks kd sp dp n kd j = if dp ≤ j ∧ j < dp + n then h ks (sp + (j - dp)) else h kd j := by
  unfold bg_cpy
  rw [if_pos rfl]
theorem cpy_ne {h : bg_G} {ks kd k : Nat} {sp dp n : Int} (hk : k ≠ kd) : bg_cpy h ks kd sp dp n k = h k := by
  funext j
  unfold bg_cpy
  rw [if_neg hk]
theorem s_lcopy (d a b : Nat) (sh : List bg_C) (ha : lndS sh a) (hb : lndS sh b) (hab : a + 16 ≤ b ∨ b + 16 ≤ a) (h : bg_G) (Rt : bg_R) (hR : ∀ h' : bg_G, frO a h h' → (∀ D, holdC h b D → holdC h' a D) → Rt none (sh, h')) : bg_Ca bg_MS (d + 1) 31 [vR a, vR b] (sh, h) Rt := by
  obtain ⟨a0, a1, a2, a3, a4⟩ := ha
  obtain ⟨b0, b1, b2, b3, b4⟩ := hb
  refine bg_ca (cd := cd_X2_copy) rfl rfl ?_
  intro X hX
  have l1 : ∀ p, p ≤ 12 → ∀ h' : bg_G, frO a h h' → (∀ q : Nat, q < p → ∀ i : Nat, i < 7 → h' (a + 2 + q) i = h (b + 2 + q) i) → X (2, [oR a, oR b, oI (p : Int)], [], (sh, h'), (0, 0)) := by
    refine lp_up 12 _ ?_ (fun p hp ih => ?_)
    · intro h' f1 f2
      iterate 2 (refine hX _ ?_; conv => whnf)
      refine hX _ ?_; conv => whnf
      refine ⟨fun q5 => ?_, fun q5 => ?_⟩
      · try simp (disch := omega) only [bg_w_id, Int.toNat_natCast, rw_land, sh_land, not_true_eq_false, a0, b0, kc0, kc1, kc2, kc3, kc4, kc5, kc6, kc7, kc8, kc9, kc10, kc11, kc12, kc13, kc14, kc15, kc16, kc17, kc18, kc19, kc20, kc21, kc22, kc23, kc24, kc25, kc26, kc27, kc28, kc29, kc30, kc31, kc32, kc33] at q5
        refine hX _ ?_; conv => whnf
        refine hX _ ?_; conv => whnf
        try (simp (disch := omega) only [bg_w_id, Int.toNat_natCast, rw_land, sh_land, not_true_eq_false, a0, b0]; try conv => whnf)
        iterate 2 (refine hX _ ?_; conv => whnf)
        refine hX _ ?_; conv => whnf
        try (simp (disch := omega) only [bg_w_id, Int.toNat_natCast, rw_land, sh_land, not_true_eq_false, a0, b0]; try conv => whnf)
        iterate 2 (refine hX _ ?_; conv => whnf)
        refine hX _ ?_; conv => whnf
        try simp (disch := omega) only [bg_w_id, Int.toNat_natCast, rw_land, sh_land, not_true_eq_false, a0, b0]
        try simp (disch := omega) only [a3, b3]
        try conv => whnf
        try simp (disch := omega) only [a3, b3]
        try conv => whnf
        refine ⟨by omega, ?_⟩
        conv => whnf
        refine hX _ ?_; conv => whnf
        refine hX _ ?_; conv => whnf
        try (simp (disch := omega) only [bg_w_id, Int.toNat_natCast, rw_land, sh_land, not_true_eq_false, a0, b0]; try conv => whnf)
        iterate 2 (refine hX _ ?_; conv => whnf)
        refine hX _ ?_; conv => whnf
        try (simp (disch := omega) only [bg_w_id, Int.toNat_natCast, rw_land, sh_land, not_true_eq_false, a0, b0]; try conv => whnf)
        iterate 2 (refine hX _ ?_; conv => whnf)
        refine hX _ ?_; conv => whnf
        try simp (disch := omega) only [bg_w_id, Int.toNat_natCast, rw_land, sh_land, not_true_eq_false, a0, b0]
        try simp (disch := omega) only [a4, b4]
        try conv => whnf
        try simp (disch := omega) only [a4, b4]
        try conv => whnf
        refine ⟨by omega, ?_⟩
        conv => whnf
        iterate 2 (refine hX _ ?_; conv => whnf)
        refine hX _ ?_; conv => whnf
        try (simp (disch := omega) only [bg_w_id, Int.toNat_natCast, rw_land, sh_land, not_true_eq_false, a0, b0, kc0, kc1, kc2, kc3, kc4, kc5, kc6, kc7, kc8, kc9, kc10, kc11, kc12, kc13, kc14, kc15, kc16, kc17, kc18, kc19, kc20, kc21, kc22, kc23, kc24, kc25, kc26, kc27, kc28, kc29, kc30, kc31, kc32, kc33]; try conv => whnf)
        refine hX _ ?_; conv => whnf
        try (simp (disch := omega) only [bg_w_id, Int.toNat_natCast, rw_land, sh_land, not_true_eq_false, a0, b0, kc0, kc1, kc2, kc3, kc4, kc5, kc6, kc7, kc8, kc9, kc10, kc11, kc12, kc13, kc14, kc15, kc16, kc17, kc18, kc19, kc20, kc21, kc22, kc23, kc24, kc25, kc26, kc27, kc28, kc29, kc30, kc31, kc32, kc33]; try conv => whnf)
        iterate 2 (refine hX _ ?_; conv => whnf)
        refine hX _ ?_; conv => whnf
        try (simp (disch := omega) only [bg_w_id, Int.toNat_natCast, rw_land, sh_land, not_true_eq_false, a0, b0, kc0, kc1, kc2, kc3, kc4, kc5, kc6, kc7, kc8, kc9, kc10, kc11, kc12, kc13, kc14, kc15, kc16, kc17, kc18, kc19, kc20, kc21, kc22, kc23, kc24, kc25, kc26, kc27, kc28, kc29, kc30, kc31, kc32, kc33]; try conv => whnf)
        refine hX _ ?_; conv => whnf
        try (simp (disch := omega) only [bg_w_id, Int.toNat_natCast, rw_land, sh_land, not_true_eq_false, a0, b0, kc0, kc1, kc2, kc3, kc4, kc5, kc6, kc7, kc8, kc9, kc10, kc11, kc12, kc13, kc14, kc15, kc16, kc17, kc18, kc19, kc20, kc21, kc22, kc23, kc24, kc25, kc26, kc27, kc28, kc29, kc30, kc31, kc32, kc33]; try conv => whnf)
        iterate 2 (refine hX _ ?_; conv => whnf)
        refine hX _ ?_; conv => whnf
        try (simp (disch := omega) only [bg_w_id, Int.toNat_natCast, rw_land, sh_land, not_true_eq_false, a0, b0, kc0, kc1, kc2, kc3, kc4, kc5, kc6, kc7, kc8, kc9, kc10, kc11, kc12, kc13, kc14, kc15, kc16, kc17, kc18, kc19, kc20, kc21, kc22, kc23, kc24, kc25, kc26, kc27, kc28, kc29, kc30, kc31, kc32, kc33]; try conv => whnf)
        refine hX _ ?_; conv => whnf
        try (simp (disch := omega) only [bg_w_id, Int.toNat_natCast, rw_land, sh_land, not_true_eq_false, a0, b0, kc0, kc1, kc2, kc3, kc4, kc5, kc6, kc7, kc8, kc9, kc10, kc11, kc12, kc13, kc14, kc15, kc16, kc17, kc18, kc19, kc20, kc21, kc22, kc23, kc24, kc25, kc26, kc27, kc28, kc29, kc30, kc31, kc32, kc33]; try conv => whnf)
        iterate 2 (refine hX _ ?_; conv => whnf)
        refine hX _ ?_; conv => whnf
        try (simp (disch := omega) only [bg_w_id, Int.toNat_natCast, rw_land, sh_land, not_true_eq_false, a0, b0, kc0, kc1, kc2, kc3, kc4, kc5, kc6, kc7, kc8, kc9, kc10, kc11, kc12, kc13, kc14, kc15, kc16, kc17, kc18, kc19, kc20, kc21, kc22, kc23, kc24, kc25, kc26, kc27, kc28, kc29, kc30, kc31, kc32, kc33]; try conv => whnf)
        refine hX _ ?_; conv => whnf
        try (simp (disch := omega) only [bg_w_id, Int.toNat_natCast, rw_land, sh_land, not_true_eq_false, a0, b0, kc0, kc1, kc2, kc3, kc4, kc5, kc6, kc7, kc8, kc9, kc10, kc11, kc12, kc13, kc14, kc15, kc16, kc17, kc18, kc19, kc20, kc21, kc22, kc23, kc24, kc25, kc26, kc27, kc28, kc29, kc30, kc31, kc32, kc33]; try conv => whnf)
        iterate 2 (refine hX _ ?_; conv => whnf)
        refine hX _ ?_; conv => whnf
        try (simp (disch := omega) only [bg_w_id, Int.toNat_natCast, rw_land, sh_land, not_true_eq_false, a0, b0, kc0, kc1, kc2, kc3, kc4, kc5, kc6, kc7, kc8, kc9, kc10, kc11, kc12, kc13, kc14, kc15, kc16, kc17, kc18, kc19, kc20, kc21, kc22, kc23, kc24, kc25, kc26, kc27, kc28, kc29, kc30, kc31, kc32, kc33]; try conv => whnf)
        refine hX _ ?_; conv => whnf
        try (simp (disch := omega) only [bg_w_id, Int.toNat_natCast, rw_land, sh_land, not_true_eq_false, a0, b0, kc0, kc1, kc2, kc3, kc4, kc5, kc6, kc7, kc8, kc9, kc10, kc11, kc12, kc13, kc14, kc15, kc16, kc17, kc18, kc19, kc20, kc21, kc22, kc23, kc24, kc25, kc26, kc27, kc28, kc29, kc30, kc31, kc32, kc33]; try conv => whnf)
        try simp only [kc0, kc1, kc2, kc3, kc4, kc5, kc6, kc7, kc8, kc9, kc10, kc11, kc12, kc13, kc14, kc15, kc16, kc17, kc18, kc19, kc20, kc21, kc22, kc23, kc24, kc25, kc26, kc27, kc28, kc29, kc30, kc31, kc32, kc33]
        refine hX _ ?_; conv => whnf
        refine hR _ (fun k hk => ?_) (fun D hD => ?_)
        · rw [bg_up_ne (by omega), bg_up_ne (by omega), bg_up_ne (by omega), bg_up_ne (by omega), bg_up_ne (by omega), cpy_ne (by omega), cpy_ne (by omega)]
          exact f1 k hk
        · obtain ⟨⟨d3, d4, d5, d6, d7⟩, e1, e2⟩ := hD
          have eb : ∀ k, b ≤ k → k ≤ b + 15 → h' k = h k := fun k k1 k2 => f1 k (by omega)
          refine ⟨⟨?_, ?_, ?_, ?_, ?_⟩, fun q hq i hi => ?_, fun t ht => ⟨?_, ?_⟩⟩
          · simp (disch := omega) only [bg_up_nj, bg_up_self, bg_up_ne, cpy_ne, ne_eq, Int.reduceEq, not_false_eq_true]
            rw [eb b (by omega) (by omega)]; exact d3
          · simp (disch := omega) only [bg_up_nj, bg_up_self, bg_up_ne, cpy_ne, ne_eq, Int.reduceEq, not_false_eq_true]
            rw [eb b (by omega) (by omega)]; exact d4
          · simp (disch := omega) only [bg_up_nj, bg_up_self, bg_up_ne, cpy_ne, ne_eq, Int.reduceEq, not_false_eq_true]
            rw [eb b (by omega) (by omega)]; exact d5
          · simp (disch := omega) only [bg_up_nj, bg_up_self, bg_up_ne, cpy_ne, ne_eq, Int.reduceEq, not_false_eq_true]
            rw [eb b (by omega) (by omega)]; exact d6
          · simp (disch := omega) only [bg_up_nj, bg_up_self, bg_up_ne, cpy_ne, ne_eq, Int.reduceEq, not_false_eq_true]
            rw [eb b (by omega) (by omega)]; exact d7
          · rw [bg_up_ne (by omega), bg_up_ne (by omega), bg_up_ne (by omega), bg_up_ne (by omega), bg_up_ne (by omega), cpy_ne (by omega), cpy_ne (by omega), f2 q hq i hi]
            exact e1 q hq i hi
          · rw [bg_up_ne (by omega), bg_up_ne (by omega), bg_up_ne (by omega), bg_up_ne (by omega), bg_up_ne (by omega), cpy_ne (by omega), cpy_at, if_pos (by omega), show (0 : Int) + ((t : Int) - 0) = t by omega, eb _ (by omega) (by omega)]
            exact (e2 t ht).1
          · rw [bg_up_ne (by omega), bg_up_ne (by omega), bg_up_ne (by omega), bg_up_ne (by omega), bg_up_ne (by omega), cpy_at, if_pos (by omega), show (0 : Int) + ((t : Int) - 0) = t by omega, cpy_ne (by omega), eb _ (by omega) (by omega)]
            exact (e2 t ht).2
      · exfalso
        (try simp (disch := omega) only [bg_w_id, Int.toNat_natCast, rw_land, sh_land, not_true_eq_false, a0, b0, kc0, kc1, kc2, kc3, kc4, kc5, kc6, kc7, kc8, kc9, kc10, kc11, kc12, kc13, kc14, kc15, kc16, kc17, kc18, kc19, kc20, kc21, kc22, kc23, kc24, kc25, kc26, kc27, kc28, kc29, kc30, kc31, kc32, kc33] at q5) <;> (omega)
    · intro h' f1 f2
      iterate 2 (refine hX _ ?_; conv => whnf)
      refine hX _ ?_; conv => whnf
      refine ⟨fun q5 => ?_, fun q5 => ?_⟩
      · exfalso
        (try simp (disch := omega) only [bg_w_id, Int.toNat_natCast, rw_land, sh_land, not_true_eq_false, a0, a1, b0, b1, rw_lnd, kc0, kc1, kc2, kc3, kc4, kc5, kc6, kc7, kc8, kc9, kc10, kc11, kc12, kc13, kc14, kc15, kc16, kc17, kc18, kc19, kc20, kc21, kc22, kc23, kc24, kc25, kc26, kc27, kc28, kc29, kc30, kc31, kc32, kc33] at q5) <;> (omega)
      · try simp (disch := omega) only [bg_w_id, Int.toNat_natCast, rw_land, sh_land, not_true_eq_false, a0, a1, b0, b1, rw_lnd, kc0, kc1, kc2, kc3, kc4, kc5, kc6, kc7, kc8, kc9, kc10, kc11, kc12, kc13, kc14, kc15, kc16, kc17, kc18, kc19, kc20, kc21, kc22, kc23, kc24, kc25, kc26, kc27, kc28, kc29, kc30, kc31, kc32, kc33] at q5
        refine hX _ ?_; conv => whnf
        refine hX _ ?_; conv => whnf
        try (simp (disch := omega) only [bg_w_id, Int.toNat_natCast, rw_land, sh_land, not_true_eq_false, a0, a1, b0, b1, rw_lnd]; try conv => whnf)
        refine hX _ ?_; conv => whnf
        refine hX _ ?_; conv => whnf
        try (simp (disch := omega) only [bg_w_id, Int.toNat_natCast, rw_land, sh_land, not_true_eq_false, a0, a1, b0, b1, rw_lnd]; try conv => whnf)
        refine ⟨by first | omega | (simp (disch := omega) only [bg_w_id, Int.toNat_natCast, rw_land, sh_land, not_true_eq_false, a0, a1, b0, b1, rw_lnd]; omega), ?_⟩
        try (simp (disch := omega) only [bg_w_id, Int.toNat_natCast, rw_land, sh_land, not_true_eq_false, a0, a1, b0, b1, rw_lnd])
        try conv => whnf
        iterate 2 (refine hX _ ?_; conv => whnf)
        refine hX _ ?_; conv => whnf
        try (simp (disch := omega) only [bg_w_id, Int.toNat_natCast, rw_land, sh_land, not_true_eq_false, a0, a1, b0, b1, rw_lnd]; try conv => whnf)
        refine hX _ ?_; conv => whnf
        refine hX _ ?_; conv => whnf
        try (simp (disch := omega) only [bg_w_id, Int.toNat_natCast, rw_land, sh_land, not_true_eq_false, a0, a1, b0, b1, rw_lnd]; try conv => whnf)
        refine ⟨by first | omega | (simp (disch := omega) only [bg_w_id, Int.toNat_natCast, rw_land, sh_land, not_true_eq_false, a0, a1, b0, b1, rw_lnd]; omega), ?_⟩
        try (simp (disch := omega) only [bg_w_id, Int.toNat_natCast, rw_land, sh_land, not_true_eq_false, a0, a1, b0, b1, rw_lnd])
        try conv => whnf
        iterate 2 (refine hX _ ?_; conv => whnf)
        refine hX _ ?_; conv => whnf
        try simp (disch := omega) only [bg_w_id, Int.toNat_natCast, rw_land, sh_land, not_true_eq_false, a0, a1, b0, b1, rw_lnd]
        try simp (disch := omega) only [a2, b2]
        try conv => whnf
        try simp (disch := omega) only [a2, b2]
        try conv => whnf
        refine ⟨by omega, ?_⟩
        conv => whnf
        iterate 2 (refine hX _ ?_; conv => whnf)
        refine ih _ (fun k hk => ?_) (fun q hq i hi => ?_)
        · rw [cpy_ne (by omega)]; exact f1 k hk
        · by_cases e : q = p
          · subst e
            rw [cpy_at, if_pos (by omega), show (0 : Int) + ((i : Int) - 0) = i by omega, f1 _ (by omega)]
          · rw [cpy_ne (by omega)]; exact f2 q (by omega) i hi
  iterate 2 (refine hX _ ?_; conv => whnf)
  exact l1 0 (by omega) h (fun _ _ => rfl) (fun q hq => absurd hq (by omega))
def lotS (sh : List bg_C) (q : Nat) : Prop := bg_nth sh q = some (3, 2, [some (q + 1), some (q + 2)]) ∧ bg_nth sh (q + 1) = some (10, 4, []) ∧ bg_nth sh (q + 2) = some (10, 4, [])
theorem s_tcopy (d a b : Nat) (sh : List bg_C) (ha : lotS sh a) (hb : lotS sh b) (hab : a + 3 ≤ b ∨ b + 3 ≤ a) (h : bg_G) (Rt : bg_R) (hR : ∀ h' : bg_G, (∀ k, k ≠ a + 1 → k ≠ a + 2 → h' k = h k) → (∀ k : Nat, k < 4 → h' (a + 1) k = h (b + 1) k ∧ h' (a + 2) k = h (b + 2) k) → Rt none (sh, h')) : bg_Ca bg_MS (d + 1) 44 [vR a, vR b] (sh, h) Rt := by
  obtain ⟨a0, a1, a2⟩ := ha
  obtain ⟨b0, b1, b2⟩ := hb
  refine bg_ca (cd := cd_X3_copy) rfl rfl ?_
  intro X hX
  refine hX _ ?_; conv => whnf
  refine hX _ ?_; conv => whnf
  try (simp (disch := omega) only [bg_w_id, Int.toNat_natCast, rw_land, sh_land, not_true_eq_false, a0, b0]; try conv => whnf)
  iterate 2 (refine hX _ ?_; conv => whnf)
  refine hX _ ?_; conv => whnf
  try (simp (disch := omega) only [bg_w_id, Int.toNat_natCast, rw_land, sh_land, not_true_eq_false, a0, b0]; try conv => whnf)
  iterate 2 (refine hX _ ?_; conv => whnf)
  refine hX _ ?_; conv => whnf
  try simp (disch := omega) only [bg_w_id, Int.toNat_natCast, rw_land, sh_land, not_true_eq_false, a0, b0]
  try simp (disch := omega) only [a1, b1]
  try conv => whnf
  try simp (disch := omega) only [a1, b1]
  try conv => whnf
  refine ⟨by omega, ?_⟩
  conv => whnf
  refine hX _ ?_; conv => whnf
  refine hX _ ?_; conv => whnf
  try (simp (disch := omega) only [bg_w_id, Int.toNat_natCast, rw_land, sh_land, not_true_eq_false, a0, b0]; try conv => whnf)
  iterate 2 (refine hX _ ?_; conv => whnf)
  refine hX _ ?_; conv => whnf
  try (simp (disch := omega) only [bg_w_id, Int.toNat_natCast, rw_land, sh_land, not_true_eq_false, a0, b0]; try conv => whnf)
  iterate 2 (refine hX _ ?_; conv => whnf)
  refine hX _ ?_; conv => whnf
  try simp (disch := omega) only [bg_w_id, Int.toNat_natCast, rw_land, sh_land, not_true_eq_false, a0, b0]
  try simp (disch := omega) only [a2, b2]
  try conv => whnf
  try simp (disch := omega) only [a2, b2]
  try conv => whnf
  refine ⟨by omega, ?_⟩
  conv => whnf
  refine hX _ ?_; conv => whnf
  refine hR _ (fun k k1 k2 => ?_) (fun k hk => ⟨?_, ?_⟩)
  · rw [cpy_ne k2, cpy_ne k1]
  · rw [cpy_ne (by omega), cpy_at, if_pos (by omega), show (0 : Int) + ((k : Int) - 0) = k by omega]
  · rw [cpy_at, if_pos (by omega), show (0 : Int) + ((k : Int) - 0) = k by omega, cpy_ne (by omega)]
theorem s_tclear (d a : Nat) (sh : List bg_C) (ha : lotS sh a) (h : bg_G) (Rt : bg_R) (hR : ∀ h' : bg_G, (∀ k, k ≠ a + 1 → k ≠ a + 2 → h' k = h k) → (∀ k : Nat, k < 4 → h' (a + 1) k = -1 ∧ h' (a + 2) k = -1) → Rt none (sh, h')) : bg_Ca bg_MS (d + 2) 43 [vR a] (sh, h) Rt := by
  obtain ⟨a0, a1, a2⟩ := ha
  refine bg_ca (cd := cd_X3_clear) rfl rfl ?_
  intro X hX
  refine hX _ ?_; conv => whnf
  refine hX _ ?_; conv => whnf
  try (simp (disch := omega) only [bg_w_id, Int.toNat_natCast, rw_land, sh_land, not_true_eq_false, a0]; try conv => whnf)
  refine hX _ ?_; conv => whnf
  refine hX _ ?_; conv => whnf
  try simp (disch := omega) only [bg_w_id, Int.toNat_natCast, rw_land, sh_land, not_true_eq_false, a0]
  refine s_fill d (a + 1) 4 sh _ _ a1 (by omega) _ (fun h1 f1 f2 => ?_)
  conv => whnf
  refine hX _ ?_; conv => whnf
  refine hX _ ?_; conv => whnf
  try (simp (disch := omega) only [bg_w_id, Int.toNat_natCast, rw_land, sh_land, not_true_eq_false, a0]; try conv => whnf)
  refine hX _ ?_; conv => whnf
  refine hX _ ?_; conv => whnf
  try simp (disch := omega) only [bg_w_id, Int.toNat_natCast, rw_land, sh_land, not_true_eq_false, a0]
  refine s_fill d (a + 2) 4 sh _ _ a2 (by omega) _ (fun h2 g1 g2 => ?_)
  conv => whnf
  refine hX _ ?_; conv => whnf
  refine hR _ (fun k k1 k2 => ?_) (fun k hk => ⟨?_, ?_⟩)
  · rw [g1 k k2, f1 k k1]
  · rw [g1 _ (by omega)]; exact f2 k (by omega) (by omega)
  · exact g2 k (by omega) (by omega)
theorem okC_of {h : bg_G} {D : LD} (hD : okD D) (hc : holdC h 22 D) : okC h := by
  obtain ⟨⟨b1, b2, b3, b4, b5⟩, d, e⟩ := hc
  have hd := hD.1
  have d : ∀ p : Nat, p < 12 → ∀ i : Nat, i < 7 → h (24 + p) i = gr D.1 p i := d
  have e : ∀ t : Nat, t < 3 → h 36 t = gs D.2.1 t ∧ h 37 t = gr D.2.1 t 2 := e
  have rg : ∀ p : Nat, p < 12 → ∀ i : Nat, i < 7 → 0 ≤ h (24 + p) i ∧ h (24 + p) i ≤ lim i := fun p hp i hi => by
    rw [d p hp i hi]
    by_cases x : p < D.1.length
    · exact hD.2.1 p x i hi
    · rw [gr_no (by omega)]
      exact ⟨by omega, (lim_rg i hi).1⟩
  refine ⟨by rw [b1, b2, b3, b4, b5]; omega, fun p hp => ⟨rg p hp 0 (by omega), rg p hp 1 (by omega), rg p hp 2 (by omega), rg p hp 3 (by omega), rg p hp 4 (by omega), rg p hp 5 (by omega), rg p hp 6 (by omega)⟩, fun t ht => ?_⟩
  rw [(e t ht).1, (e t ht).2]
  refine ⟨gs_rg hD ht, ?_⟩
  by_cases x : t < D.2.1.length
  · exact (hD.2.2 t x).2.2
  · rw [gr_no (by omega)]
    omega
theorem s_wsurvey (d n : Nat) (h : bg_G) (ho : okC h) (Rt : bg_R) (hR : ∀ h' : bg_G, (∀ k, k ≠ 41 → k ≠ 42 → k ≠ 43 → ¬ (44 ≤ k ∧ k ≤ 45) → h' k = h k) → tbC h' (wsC h) → Rt none (bg_SH n, h')) : bg_Ca bg_MS (d + 11) 69 [vR 41, vR 22] (bg_SH n, h) Rt := by
  obtain ⟨hu, eu⟩ : ∃ hu : bg_G, hu = bg_up (bg_up h 41 5 0) 41 4 0 := ⟨_, rfl⟩
  have u1 : ∀ k, k ≠ 41 → hu k = h k := fun k hk => by rw [eu, bg_up_ne hk, bg_up_ne hk]
  have u2 : hu 41 5 = 0 := by rw [eu, bg_up_nj (by omega), bg_up_self]
  have u3 : hu 41 4 = 0 := by rw [eu, bg_up_self]
  refine bg_ca (cd := cd_X7_survey) rfl rfl ?_
  intro X hX
  iterate 11 (refine hX _ ?_; conv => whnf)
  try simp only [kc0, kc1, kc2, kc3, kc4, kc5, kc6, kc7, kc8, kc9, kc10, kc11, kc12, kc13, kc14, kc15, kc16, kc17, kc18, kc19, kc20, kc21, kc22, kc23, kc24, kc25, kc26, kc27, kc28, kc29, kc30, kc31, kc32, kc33]
  refine hX _ ?_; conv => whnf
  try simp (disch := omega) only [bg_w_id, Int.toNat_natCast, rw_land, sh_land, not_true_eq_false]
  rw [← eu]
  refine s_follow n hu (okC_fr ho (fun k a b => u1 k (by omega))) 7 d [] [] 0 1 _ rfl (by omega) (fun _ _ _ _ _ => rfl) ⟨⟨by rw [u2]; rfl, by simp, fun w l hl => absurd hl (by simp)⟩, by rw [u3]; exact ⟨by omega, Or.inl rfl⟩, fun w l hl => absurd hl (by simp)⟩ (fun i p hp => absurd hp (by simp)) _ (fun h' f1 f2 f3 => ?_)
  conv => whnf
  refine hX _ ?_; conv => whnf
  refine hR h' (fun k k1 k2 k3 k4 => by rw [f1 k k1 k2 k3 k4, u1 k k1]) ?_
  have e22 : hu 22 = h 22 := u1 22 (by omega)
  rw [e22, wf_congr (A' := fun p => h (24 + p) 0) (B' := fun p => h (24 + p) 1) (fun p hp => by have := ho.1.1; rw [u1 (24 + p) (by omega)]) (fun p hp => by have := ho.1.1; rw [u1 (24 + p) (by omega)])] at f3
  simp only [List.nil_append, List.map_id'] at f3
  exact f3
/-- the class's tables are those of its land, the plans not yet made -/
theorem s_survey (d n : Nat) (h : bg_G) (ho : okC h) (Rt : bg_R) (hR : ∀ h' : bg_G, (∀ k, k ≠ 39 → k ≠ 41 → k ≠ 42 → k ≠ 43 → ¬ (44 ≤ k ∧ k ≤ 45) → k ≠ 46 → h' k = h k) → svC h' → tbC h' (wsC h') → h' 46 7 = 0 → h' 46 9 = 0 → Rt none (bg_SH n, h')) : bg_Ca bg_MS (d + 12) 108 [vR 2] (bg_SH n, h) Rt := by
  refine bg_ca (cd := cd_X8_survey) rfl rfl ?_
  intro X hX
  iterate 4 (refine hX _ ?_; conv => whnf)
  refine hX _ ?_; conv => whnf
  try simp (disch := omega) only [bg_w_id, Int.toNat_natCast, rw_land, sh_land, not_true_eq_false]
  refine s_csurvey (d + 9) n h ho _ (fun h1 f1 f2 => ?_)
  conv => whnf
  iterate 4 (refine hX _ ?_; conv => whnf)
  refine hX _ ?_; conv => whnf
  try simp (disch := omega) only [bg_w_id, Int.toNat_natCast, rw_land, sh_land, not_true_eq_false]
  refine s_wsurvey d n h1 (okC_fr ho (fun k a b => f1 k (by omega))) _ (fun h2 g1 g2 => ?_)
  conv => whnf
  iterate 2 (refine hX _ ?_; conv => whnf)
  refine hX _ ?_; conv => whnf
  have ee : ∀ k, k ≠ 39 → k ≠ 41 → k ≠ 42 → k ≠ 43 → ¬ (44 ≤ k ∧ k ≤ 45) → k ≠ 46 → bg_up (bg_up h2 46 7 0) 46 9 0 k = h k := fun k k1 k2 k3 k4 k5 k6 => by rw [bg_up_ne k6, bg_up_ne k6, g1 k k2 k3 k4 k5, f1 k k1]
  have fin := hR (bg_up (bg_up h2 46 7 0) 46 9 0) ee (fun c hc => by
    rw [bg_up_ne (by omega), bg_up_ne (by omega), g1 39 (by omega) (by omega) (by omega) (by omega), f2 c hc]
    unfold outC
    rw [ee 22 (by omega) (by omega) (by omega) (by omega) (by omega) (by omega)]
    refine fo_congr _ (fun p x hp => ?_)
    have := ho.1.1
    show _ = (if bt (plc c) (bg_up (bg_up h2 46 7 0) 46 9 0 (24 + p) 0) = 0 then x else if bt (plc c) (bg_up (bg_up h2 46 7 0) 46 9 0 (24 + p) 1) = 0 then bg_or x (bg_shl 1 p) else x)
    rw [ee (24 + p) (by omega) (by omega) (by omega) (by omega) (by omega) (by omega)]) (by
    have e : wsC (bg_up (bg_up h2 46 7 0) 46 9 0) = wsC h1 := by
      unfold wsC wsG
      have := ho.1.1
      rw [ee 22 (by omega) (by omega) (by omega) (by omega) (by omega) (by omega), f1 22 (by omega), wf_congr (fun p hp => by rw [ee (24 + p) (by omega) (by omega) (by omega) (by omega) (by omega) (by omega), ← f1 (24 + p) (by omega)]) (fun p hp => by rw [ee (24 + p) (by omega) (by omega) (by omega) (by omega) (by omega) (by omega), ← f1 (24 + p) (by omega)])]
    rw [e]
    exact tbC_fr (by rw [bg_up_ne (by omega), bg_up_ne (by omega)]) (by rw [bg_up_ne (by omega), bg_up_ne (by omega)]) (by rw [bg_up_ne (by omega), bg_up_ne (by omega)]) (by rw [bg_up_ne (by omega), bg_up_ne (by omega)]) (fun k a b => by rw [bg_up_ne (by omega), bg_up_ne (by omega)]) g2) (by rw [bg_up_nj (by omega), bg_up_self]) (by rw [bg_up_self])
  have fg : bg_Ca bg_MS (d + 11) 48 [vR 46] (bg_SH n, h2) (fun r H' => X (29, [oR 2], bg_push r [], H', (0, 0))) := by
    revert fin
    generalize hP : Rt none (bg_SH n, bg_up (bg_up h2 46 7 0) 46 9 0) = P
    intro fin
    have nx : X (29, [oR 2], [], (bg_SH n, bg_up (bg_up h2 46 7 0) 46 9 0), (0, 0)) := by
      refine hX _ ?_; conv => whnf
      rw [hP]
      exact fin
    revert nx
    generalize hY : X (29, [oR 2], [], (bg_SH n, bg_up (bg_up h2 46 7 0) 46 9 0), (0, 0)) = Y
    intro nx
    refine bg_ca (cd := cd_X4_forget) rfl rfl ?_
    intro X2 hX2
    refine hX2 _ ?_; conv => whnf
    refine hX2 _ ?_; conv => whnf
    refine hX2 _ ?_; conv => whnf
    refine ⟨Or.inl rfl, ?_⟩
    refine hX2 _ ?_; conv => whnf
    refine hX2 _ ?_; conv => whnf
    refine hX2 _ ?_; conv => whnf
    refine ⟨Or.inl rfl, ?_⟩
    refine hX2 _ ?_; conv => whnf
    show X (29, [oR 2], [], (bg_SH n, bg_up (bg_up h2 46 7 0) 46 9 0), (0, 0))
    rw [hY]
    exact nx
  exact fg
