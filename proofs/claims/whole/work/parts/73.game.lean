/-- the square of a support -/
def SQ (B : Nat → Nat → Int) (a b : Nat) (i j : Nat) : Int := B (mb a i) (mb b j)
/-- without the member g -/
theorem rm_ms : ∀ a : Nat, a < 16 → ∀ i : Nat, i < pc 15 a → (pc 15 (a &&& (15 - 2 ^ mb a i)) + 1 = pc 15 a) ∧ (a &&& (15 - 2 ^ mb a i) < 16) ∧ (∀ l : Nat, l < pc 15 a - 1 → mb (a &&& (15 - 2 ^ mb a i)) l = mb a (skp i l)) ∧ bg_and (a : Int) (bg_xor (bg_shl 1 ((mb a i : Nat) : Int)) (-1)) = ((a &&& (15 - 2 ^ mb a i) : Nat) : Int) ∧ bg_and (a : Int) (bg_shl 1 ((mb a i : Nat) : Int) - 1) = ((a % 2 ^ mb a i : Nat) : Int) := by decide +kernel
theorem ah_rmA : ∀ a : Nat, a < 16 → ∀ i : Nat, i < pc 15 a → ∀ g : Nat, g < 4 → (a.testBit g = true ∧ g ≠ mb a i) → ah (a &&& (15 - 2 ^ mb a i)) g < pc 15 a - 1 := by decide +kernel
theorem ah_rmB : ∀ a : Nat, a < 16 → ∀ i : Nat, i < pc 15 a → ∀ g : Nat, g < 4 → (a.testBit g = true ∧ g ≠ mb a i) → g = mb a (skp i (ah (a &&& (15 - 2 ^ mb a i)) g)) := by decide +kernel
theorem ah_rmC : ∀ a : Nat, a < 16 → ∀ i : Nat, i < pc 15 a → ∀ g : Nat, g < 4 → (a.testBit g = true ∧ g ≠ mb a i) → ah (a &&& (15 - 2 ^ mb a i)) (g + 1) = ah (a &&& (15 - 2 ^ mb a i)) g + 1 := by decide +kernel
theorem ah_rm0 : ∀ a : Nat, a < 16 → ∀ i : Nat, i < pc 15 a → ∀ g : Nat, g < 4 → (a.testBit g = false ∨ g = mb a i) → ah (a &&& (15 - 2 ^ mb a i)) (g + 1) = ah (a &&& (15 - 2 ^ mb a i)) g := by decide +kernel
theorem s_signedMinor (d n a b i j : Nat) (ha : a < 16) (hb : b < 16) (hab : pc 15 b = pc 15 a) (hi : i < pc 15 a) (hj : j < pc 15 a) (B : Nat → Nat → Int) (h : bg_G) (hB : BR h B) (Rt : bg_R) (hR : ∀ h' : bg_G, (∀ k, ¬ (65 ≤ k ∧ k ≤ 67) → h' k = h k) → Rt (some (.inr (.inl (cof (pc 15 a) (SQ B a b) i j)))) (bg_SH n, h')) : bg_Ca bg_MS (d + 2) 22 [vR 56, vI a, vI b, vI (mb a i : Nat), vI (mb b j : Nat)] (bg_SH n, h) Rt := by
  obtain ⟨a1, a2, a3, a4, a5⟩ := rm_ms a ha i hi
  obtain ⟨b1, b2, b3, b4, b5⟩ := rm_ms b hb j (by omega)
  have ma := mb_s a ha i hi
  have mbb := mb_s b hb j (by omega)
  obtain ⟨a', ea'⟩ : ∃ a', a' = a &&& (15 - 2 ^ mb a i) := ⟨_, rfl⟩
  obtain ⟨b', eb'⟩ : ∃ b', b' = b &&& (15 - 2 ^ mb b j) := ⟨_, rfl⟩
  rw [← ea'] at a1 a2 a3 a4
  rw [← eb'] at b1 b2 b3 b4
  have pa : pc 15 a ≤ 4 := by rw [← ms_len a ha]; exact List.length_filter_le _ _
  have la := ah_4 a' a2
  refine bg_ca (cd := cd_X1_signedMinor) rfl rfl ?_
  intro X hX
  have l1 : ∀ g, g ≤ 4 → ∀ (h' : bg_G) (j7 j8 : Option bg_V), (∀ k, ¬ (65 ≤ k ∧ k ≤ 67) → h' k = h k) → (∀ l q : Nat, l < ah a' g → q < pc 15 a - 1 → h' (65 + l) q = SQ B a b (skp i l) (skp j q)) → X (6, [oR 56, oI (a : Int), oI (b : Int), oI (mb a i : Nat), oI (mb b j : Nat), oI (ah a' g : Nat), oI (g : Int), j7, j8], [], (bg_SH n, h'), (0, 0)) := by
    refine lp_up 4 _ ?_ (fun g hg ih => ?_)
    · intro h' j7 j8 f1 f2
      rw [la]
      rw [la] at f2
      have e1 : bitc ((a % 2 ^ mb a i : Nat) : Int) = (i : Nat) := by
        have : a % 2 ^ mb a i ≤ a := Nat.mod_le _ _
        rw [bitc_pc (by omega)]
        exact congrArg Nat.cast ma.2.2
      have e2 : bitc ((b % 2 ^ mb b j : Nat) : Int) = (j : Nat) := by
        have : b % 2 ^ mb b j ≤ b := Nat.mod_le _ _
        rw [bitc_pc (by omega)]
        exact congrArg Nat.cast mbb.2.2
      have ev : bg_and ((i : Int) + (j : Int)) 1 = (((i + j) % 2 : Nat) : Int) := by
        rw [show (i : Int) + (j : Int) = ((i + j : Nat) : Int) by omega, show (1 : Int) = ((1 : Nat) : Int) from rfl, bn_and (by omega) (by omega), Nat.and_one_is_mod]
      have hR := hR h' f1
      unfold cof at hR
      have hmn : ∀ l q : Nat, l < pc 15 a' → q < pc 15 a' → h' (65 + l) q = (fun l q => SQ B a b (skp i l) (skp j q)) l q := fun l q h1 h2 => f2 l q h1 (by omega)
      have epa : pc 15 a - 1 = pc 15 a' := by omega
      rw [epa] at hR
      by_cases c1 : (i + j) % 2 = 0
      · rw [if_pos c1] at hR
        rw [c1] at ev
        iterate 2 (refine hX _ ?_; conv => whnf)
        refine hX _ ?_; conv => whnf
        refine ⟨fun q9 => ?_, fun q9 => ?_⟩
        · try simp (disch := omega) only [bg_w_id, Int.toNat_natCast, rw_land, sh_land, not_true_eq_false, kc0, kc1, kc2, kc3, kc4, kc5, kc6, kc7, kc8, kc9, kc10, kc11, kc12, kc13, kc14, kc15, kc16, kc17, kc18, kc19, kc20, kc21, kc22, kc23, kc24, kc25, kc26, kc27, kc28, kc29, kc30, kc31, kc32, kc33] at q9
          iterate 7 (refine hX _ ?_; conv => whnf)
          refine hX _ ?_; conv => whnf
          try simp (disch := omega) only [bg_w_id, Int.toNat_natCast, rw_land, sh_land, not_true_eq_false]
          rw [a5]
          refine s_bitCount d _ _ _ ?_
          rw [e1]
          conv => whnf
          iterate 7 (refine hX _ ?_; conv => whnf)
          refine hX _ ?_; conv => whnf
          try simp (disch := omega) only [bg_w_id, Int.toNat_natCast, rw_land, sh_land, not_true_eq_false]
          rw [b5]
          refine s_bitCount d _ _ _ ?_
          rw [e2]
          conv => whnf
          iterate 4 (refine hX _ ?_; conv => whnf)
          refine hX _ ?_; conv => whnf
          try simp (disch := omega) only [bg_w_id, Int.toNat_natCast, rw_land, sh_land, not_true_eq_false]
          refine s_minorOf d n (pc 15 a') (by omega) _ h' hmn _ ?_
          conv => whnf
          iterate 4 (refine hX _ ?_; conv => whnf)
          refine hX _ ?_; conv => whnf
          refine ⟨fun q94 => ?_, fun q94 => ?_⟩
          · exfalso
            (try simp (disch := omega) only [bg_w_id, Int.toNat_natCast, rw_land, sh_land, not_true_eq_false, kc0, kc1, kc2, kc3, kc4, kc5, kc6, kc7, kc8, kc9, kc10, kc11, kc12, kc13, kc14, kc15, kc16, kc17, kc18, kc19, kc20, kc21, kc22, kc23, kc24, kc25, kc26, kc27, kc28, kc29, kc30, kc31, kc32, kc33] at q94) <;> ((try rw [bg_and_w] at q94); rw [ev] at q94; exact q94 rfl)
          · try simp (disch := omega) only [bg_w_id, Int.toNat_natCast, rw_land, sh_land, not_true_eq_false, kc0, kc1, kc2, kc3, kc4, kc5, kc6, kc7, kc8, kc9, kc10, kc11, kc12, kc13, kc14, kc15, kc16, kc17, kc18, kc19, kc20, kc21, kc22, kc23, kc24, kc25, kc26, kc27, kc28, kc29, kc30, kc31, kc32, kc33] at q94
            iterate 2 (refine hX _ ?_; conv => whnf)
            refine hX _ ?_; conv => whnf
            exact hR
        · exfalso
          (try simp (disch := omega) only [bg_w_id, Int.toNat_natCast, rw_land, sh_land, not_true_eq_false, kc0, kc1, kc2, kc3, kc4, kc5, kc6, kc7, kc8, kc9, kc10, kc11, kc12, kc13, kc14, kc15, kc16, kc17, kc18, kc19, kc20, kc21, kc22, kc23, kc24, kc25, kc26, kc27, kc28, kc29, kc30, kc31, kc32, kc33] at q9) <;> (omega)
      · rw [if_neg c1] at hR
        have c1' : (i + j) % 2 = 1 := by omega
        rw [c1'] at ev
        iterate 2 (refine hX _ ?_; conv => whnf)
        refine hX _ ?_; conv => whnf
        refine ⟨fun q9 => ?_, fun q9 => ?_⟩
        · try simp (disch := omega) only [bg_w_id, Int.toNat_natCast, rw_land, sh_land, not_true_eq_false, kc0, kc1, kc2, kc3, kc4, kc5, kc6, kc7, kc8, kc9, kc10, kc11, kc12, kc13, kc14, kc15, kc16, kc17, kc18, kc19, kc20, kc21, kc22, kc23, kc24, kc25, kc26, kc27, kc28, kc29, kc30, kc31, kc32, kc33] at q9
          iterate 7 (refine hX _ ?_; conv => whnf)
          refine hX _ ?_; conv => whnf
          try simp (disch := omega) only [bg_w_id, Int.toNat_natCast, rw_land, sh_land, not_true_eq_false]
          rw [a5]
          refine s_bitCount d _ _ _ ?_
          rw [e1]
          conv => whnf
          iterate 7 (refine hX _ ?_; conv => whnf)
          refine hX _ ?_; conv => whnf
          try simp (disch := omega) only [bg_w_id, Int.toNat_natCast, rw_land, sh_land, not_true_eq_false]
          rw [b5]
          refine s_bitCount d _ _ _ ?_
          rw [e2]
          conv => whnf
          iterate 4 (refine hX _ ?_; conv => whnf)
          refine hX _ ?_; conv => whnf
          try simp (disch := omega) only [bg_w_id, Int.toNat_natCast, rw_land, sh_land, not_true_eq_false]
          refine s_minorOf d n (pc 15 a') (by omega) _ h' hmn _ ?_
          conv => whnf
          iterate 4 (refine hX _ ?_; conv => whnf)
          refine hX _ ?_; conv => whnf
          refine ⟨fun q94 => ?_, fun q94 => ?_⟩
          · try simp (disch := omega) only [bg_w_id, Int.toNat_natCast, rw_land, sh_land, not_true_eq_false, kc0, kc1, kc2, kc3, kc4, kc5, kc6, kc7, kc8, kc9, kc10, kc11, kc12, kc13, kc14, kc15, kc16, kc17, kc18, kc19, kc20, kc21, kc22, kc23, kc24, kc25, kc26, kc27, kc28, kc29, kc30, kc31, kc32, kc33] at q94
            iterate 2 (refine hX _ ?_; conv => whnf)
            refine hX _ ?_; conv => whnf
            exact hR
          · exfalso
            (try simp (disch := omega) only [bg_w_id, Int.toNat_natCast, rw_land, sh_land, not_true_eq_false, kc0, kc1, kc2, kc3, kc4, kc5, kc6, kc7, kc8, kc9, kc10, kc11, kc12, kc13, kc14, kc15, kc16, kc17, kc18, kc19, kc20, kc21, kc22, kc23, kc24, kc25, kc26, kc27, kc28, kc29, kc30, kc31, kc32, kc33] at q94) <;> ((try rw [bg_and_w] at q94); rw [ev] at q94; exact absurd q94 (by decide))
        · exfalso
          (try simp (disch := omega) only [bg_w_id, Int.toNat_natCast, rw_land, sh_land, not_true_eq_false, kc0, kc1, kc2, kc3, kc4, kc5, kc6, kc7, kc8, kc9, kc10, kc11, kc12, kc13, kc14, kc15, kc16, kc17, kc18, kc19, kc20, kc21, kc22, kc23, kc24, kc25, kc26, kc27, kc28, kc29, kc30, kc31, kc32, kc33] at q9) <;> (omega)
    · intro h' j7 j8 f1 f2
      have eb := bt_set ha hg
      by_cases c1 : a.testBit g = true ∧ g ≠ mb a i
      · have x1 := ah_rmA a ha i hi g hg c1
        have x2 := ah_rmB a ha i hi g hg c1
        have x3 := ah_rmC a ha i hi g hg c1
        rw [← ea'] at x1 x2 x3
        rw [if_pos c1.1] at eb
        rw [x3] at ih
        iterate 2 (refine hX _ ?_; conv => whnf)
        refine hX _ ?_; conv => whnf
        refine ⟨fun q9 => ?_, fun q9 => ?_⟩
        · exfalso
          (try simp (disch := omega) only [bg_w_id, Int.toNat_natCast, rw_land, sh_land, not_true_eq_false, kc0, kc1, kc2, kc3, kc4, kc5, kc6, kc7, kc8, kc9, kc10, kc11, kc12, kc13, kc14, kc15, kc16, kc17, kc18, kc19, kc20, kc21, kc22, kc23, kc24, kc25, kc26, kc27, kc28, kc29, kc30, kc31, kc32, kc33] at q9) <;> (omega)
        · try simp (disch := omega) only [bg_w_id, Int.toNat_natCast, rw_land, sh_land, not_true_eq_false, kc0, kc1, kc2, kc3, kc4, kc5, kc6, kc7, kc8, kc9, kc10, kc11, kc12, kc13, kc14, kc15, kc16, kc17, kc18, kc19, kc20, kc21, kc22, kc23, kc24, kc25, kc26, kc27, kc28, kc29, kc30, kc31, kc32, kc33] at q9
          iterate 5 (refine hX _ ?_; conv => whnf)
          refine hX _ ?_; conv => whnf
          refine ⟨fun q18 => ?_, fun q18 => ?_⟩
          · exfalso
            (try simp (disch := omega) only [bg_w_id, Int.toNat_natCast, rw_land, sh_land, not_true_eq_false, kc0, kc1, kc2, kc3, kc4, kc5, kc6, kc7, kc8, kc9, kc10, kc11, kc12, kc13, kc14, kc15, kc16, kc17, kc18, kc19, kc20, kc21, kc22, kc23, kc24, kc25, kc26, kc27, kc28, kc29, kc30, kc31, kc32, kc33] at q18) <;> (exact absurd ((bt_w _ _).symm.trans q18) (by show ¬ bt (a : Int) (g : Int) = 0; omega))
          · try simp (disch := omega) only [bg_w_id, Int.toNat_natCast, rw_land, sh_land, not_true_eq_false, kc0, kc1, kc2, kc3, kc4, kc5, kc6, kc7, kc8, kc9, kc10, kc11, kc12, kc13, kc14, kc15, kc16, kc17, kc18, kc19, kc20, kc21, kc22, kc23, kc24, kc25, kc26, kc27, kc28, kc29, kc30, kc31, kc32, kc33] at q18
            iterate 2 (refine hX _ ?_; conv => whnf)
            refine hX _ ?_; conv => whnf
            refine ⟨fun q24 => ?_, fun q24 => ?_⟩
            · exfalso
              (try simp (disch := omega) only [bg_w_id, Int.toNat_natCast, rw_land, sh_land, not_true_eq_false, kc0, kc1, kc2, kc3, kc4, kc5, kc6, kc7, kc8, kc9, kc10, kc11, kc12, kc13, kc14, kc15, kc16, kc17, kc18, kc19, kc20, kc21, kc22, kc23, kc24, kc25, kc26, kc27, kc28, kc29, kc30, kc31, kc32, kc33] at q24) <;> (omega)
            · try simp (disch := omega) only [bg_w_id, Int.toNat_natCast, rw_land, sh_land, not_true_eq_false, kc0, kc1, kc2, kc3, kc4, kc5, kc6, kc7, kc8, kc9, kc10, kc11, kc12, kc13, kc14, kc15, kc16, kc17, kc18, kc19, kc20, kc21, kc22, kc23, kc24, kc25, kc26, kc27, kc28, kc29, kc30, kc31, kc32, kc33] at q24
              iterate 2 (refine hX _ ?_; conv => whnf)
              refine hX _ ?_; conv => whnf
              refine ⟨fun q30 => ?_, fun q30 => ?_⟩
              · exfalso
                (try simp (disch := omega) only [bg_w_id, Int.toNat_natCast, rw_land, sh_land, not_true_eq_false, kc0, kc1, kc2, kc3, kc4, kc5, kc6, kc7, kc8, kc9, kc10, kc11, kc12, kc13, kc14, kc15, kc16, kc17, kc18, kc19, kc20, kc21, kc22, kc23, kc24, kc25, kc26, kc27, kc28, kc29, kc30, kc31, kc32, kc33] at q30) <;> (omega)
              · try simp (disch := omega) only [bg_w_id, Int.toNat_natCast, rw_land, sh_land, not_true_eq_false, kc0, kc1, kc2, kc3, kc4, kc5, kc6, kc7, kc8, kc9, kc10, kc11, kc12, kc13, kc14, kc15, kc16, kc17, kc18, kc19, kc20, kc21, kc22, kc23, kc24, kc25, kc26, kc27, kc28, kc29, kc30, kc31, kc32, kc33] at q30
                iterate 10 (refine hX _ ?_; conv => whnf)
                refine hX _ ?_; conv => whnf
                try simp (disch := omega) only [bg_w_id, Int.toNat_natCast, rw_land, sh_land, not_true_eq_false]
                rw [b4]
                refine s_fillLine d n (ah a' g) g b' (by omega) hg b2 (by omega) B h' (BR_fr hB (fun k k1 k2 => f1 k (by omega))) _ (fun h2 g1 g2 => ?_)
                conv => whnf
                iterate 3 (refine hX _ ?_; conv => whnf)
                refine ih h2 _ _ (fun k hk => by rw [g1 k (by omega)]; exact f1 k hk) (fun l q hl hq => ?_)
                by_cases e : l = ah a' g
                · subst e
                  rw [g2 q (by omega)]
                  unfold SQ
                  rw [← x2, b3 q (by omega)]
                · rw [g1 _ (by omega)]
                  exact f2 l q (by omega) hq
      · have x3 := ah_rm0 a ha i hi g hg (by
          by_cases y : a.testBit g = true
          · right
            by_cases z : g = mb a i
            · exact z
            · exact absurd ⟨y, z⟩ c1
          · left
            simpa using y)
        rw [← ea'] at x3
        rw [x3] at ih
        by_cases c2 : a.testBit g = true
        · have c3 : g = mb a i := by
            by_cases z : g = mb a i
            · exact z
            · exact absurd ⟨c2, z⟩ c1
          rw [if_pos c2] at eb
          iterate 2 (refine hX _ ?_; conv => whnf)
          refine hX _ ?_; conv => whnf
          refine ⟨fun q9 => ?_, fun q9 => ?_⟩
          · exfalso
            (try simp (disch := omega) only [bg_w_id, Int.toNat_natCast, rw_land, sh_land, not_true_eq_false, kc0, kc1, kc2, kc3, kc4, kc5, kc6, kc7, kc8, kc9, kc10, kc11, kc12, kc13, kc14, kc15, kc16, kc17, kc18, kc19, kc20, kc21, kc22, kc23, kc24, kc25, kc26, kc27, kc28, kc29, kc30, kc31, kc32, kc33] at q9) <;> (omega)
          · try simp (disch := omega) only [bg_w_id, Int.toNat_natCast, rw_land, sh_land, not_true_eq_false, kc0, kc1, kc2, kc3, kc4, kc5, kc6, kc7, kc8, kc9, kc10, kc11, kc12, kc13, kc14, kc15, kc16, kc17, kc18, kc19, kc20, kc21, kc22, kc23, kc24, kc25, kc26, kc27, kc28, kc29, kc30, kc31, kc32, kc33] at q9
            iterate 5 (refine hX _ ?_; conv => whnf)
            refine hX _ ?_; conv => whnf
            refine ⟨fun q18 => ?_, fun q18 => ?_⟩
            · exfalso
              (try simp (disch := omega) only [bg_w_id, Int.toNat_natCast, rw_land, sh_land, not_true_eq_false, kc0, kc1, kc2, kc3, kc4, kc5, kc6, kc7, kc8, kc9, kc10, kc11, kc12, kc13, kc14, kc15, kc16, kc17, kc18, kc19, kc20, kc21, kc22, kc23, kc24, kc25, kc26, kc27, kc28, kc29, kc30, kc31, kc32, kc33] at q18) <;> (exact absurd ((bt_w _ _).symm.trans q18) (by show ¬ bt (a : Int) (g : Int) = 0; omega))
            · try simp (disch := omega) only [bg_w_id, Int.toNat_natCast, rw_land, sh_land, not_true_eq_false, kc0, kc1, kc2, kc3, kc4, kc5, kc6, kc7, kc8, kc9, kc10, kc11, kc12, kc13, kc14, kc15, kc16, kc17, kc18, kc19, kc20, kc21, kc22, kc23, kc24, kc25, kc26, kc27, kc28, kc29, kc30, kc31, kc32, kc33] at q18
              iterate 2 (refine hX _ ?_; conv => whnf)
              refine hX _ ?_; conv => whnf
              refine ⟨fun q24 => ?_, fun q24 => ?_⟩
              · try simp (disch := omega) only [bg_w_id, Int.toNat_natCast, rw_land, sh_land, not_true_eq_false, kc0, kc1, kc2, kc3, kc4, kc5, kc6, kc7, kc8, kc9, kc10, kc11, kc12, kc13, kc14, kc15, kc16, kc17, kc18, kc19, kc20, kc21, kc22, kc23, kc24, kc25, kc26, kc27, kc28, kc29, kc30, kc31, kc32, kc33] at q24
                iterate 2 (refine hX _ ?_; conv => whnf)
                exact ih h' _ _ f1 f2
              · exfalso
                (try simp (disch := omega) only [bg_w_id, Int.toNat_natCast, rw_land, sh_land, not_true_eq_false, kc0, kc1, kc2, kc3, kc4, kc5, kc6, kc7, kc8, kc9, kc10, kc11, kc12, kc13, kc14, kc15, kc16, kc17, kc18, kc19, kc20, kc21, kc22, kc23, kc24, kc25, kc26, kc27, kc28, kc29, kc30, kc31, kc32, kc33] at q24) <;> (omega)
        · rw [if_neg c2] at eb
          iterate 2 (refine hX _ ?_; conv => whnf)
          refine hX _ ?_; conv => whnf
          refine ⟨fun q9 => ?_, fun q9 => ?_⟩
          · exfalso
            (try simp (disch := omega) only [bg_w_id, Int.toNat_natCast, rw_land, sh_land, not_true_eq_false, kc0, kc1, kc2, kc3, kc4, kc5, kc6, kc7, kc8, kc9, kc10, kc11, kc12, kc13, kc14, kc15, kc16, kc17, kc18, kc19, kc20, kc21, kc22, kc23, kc24, kc25, kc26, kc27, kc28, kc29, kc30, kc31, kc32, kc33] at q9) <;> (omega)
          · try simp (disch := omega) only [bg_w_id, Int.toNat_natCast, rw_land, sh_land, not_true_eq_false, kc0, kc1, kc2, kc3, kc4, kc5, kc6, kc7, kc8, kc9, kc10, kc11, kc12, kc13, kc14, kc15, kc16, kc17, kc18, kc19, kc20, kc21, kc22, kc23, kc24, kc25, kc26, kc27, kc28, kc29, kc30, kc31, kc32, kc33] at q9
            iterate 5 (refine hX _ ?_; conv => whnf)
            refine hX _ ?_; conv => whnf
            refine ⟨fun q18 => ?_, fun q18 => ?_⟩
            · try simp (disch := omega) only [bg_w_id, Int.toNat_natCast, rw_land, sh_land, not_true_eq_false, kc0, kc1, kc2, kc3, kc4, kc5, kc6, kc7, kc8, kc9, kc10, kc11, kc12, kc13, kc14, kc15, kc16, kc17, kc18, kc19, kc20, kc21, kc22, kc23, kc24, kc25, kc26, kc27, kc28, kc29, kc30, kc31, kc32, kc33] at q18
              iterate 2 (refine hX _ ?_; conv => whnf)
              exact ih h' _ _ f1 f2
            · exfalso
              (try simp (disch := omega) only [bg_w_id, Int.toNat_natCast, rw_land, sh_land, not_true_eq_false, kc0, kc1, kc2, kc3, kc4, kc5, kc6, kc7, kc8, kc9, kc10, kc11, kc12, kc13, kc14, kc15, kc16, kc17, kc18, kc19, kc20, kc21, kc22, kc23, kc24, kc25, kc26, kc27, kc28, kc29, kc30, kc31, kc32, kc33] at q18) <;> (apply q18; show bg_w (bt (a : Int) (g : Int)) = 0; rw [bt_w]; exact eb)
  iterate 4 (refine hX _ ?_; conv => whnf)
  have := l1 0 (by omega) h none none (fun _ _ => rfl) (fun l q hl => absurd hl (by rw [ah_0]; omega))
  rw [ah_0] at this
  exact this
