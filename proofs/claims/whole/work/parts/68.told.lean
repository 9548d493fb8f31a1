/-! told, both sides; the game is set up -/
theorem stN_s (P : Nat → Bool) (n : Nat) : stN (n + 1) P = if P n then stN n P ||| 2 ^ n else stN n P := rfl
theorem s_toldOf (d n c : Nat) (h : bg_G) (hc : bg_nth (bg_SH n) c = some (10, 4, [])) (hr : ∀ k : Nat, k < 4 → -1 ≤ h c k ∧ h c k ≤ 32768) (Rt : bg_R) (hR : Rt (some (.inl (tSet (fun k => h c k) : Nat))) (bg_SH n, h)) : bg_Ca bg_MS (d + 1) 47 [vR c] (bg_SH n, h) Rt := by
  generalize hsh : bg_SH n = sh at *
  refine bg_ca (cd := cd_X3_toldOf) rfl rfl ?_
  intro X hX
  have l1 : ∀ i, i ≤ 4 → X (4, [oR c, oI (stN i (fun k => decide (0 ≤ h c k)) : Nat), oI (i : Int)], [], (sh, h), (0, 0)) := by
    refine lp_up 4 _ ?_ (fun i hi ih => ?_)
    · iterate 2 (refine hX _ ?_; conv => whnf)
      refine hX _ ?_; conv => whnf
      refine ⟨fun q6 => ?_, fun q6 => ?_⟩
      · try simp (disch := omega) only [bg_w_id, Int.toNat_natCast, rw_land, sh_land, not_true_eq_false, hc, kc0, kc1, kc2, kc3, kc4, kc5, kc6, kc7, kc8, kc9, kc10, kc11, kc12, kc13, kc14, kc15, kc16, kc17, kc18, kc19, kc20, kc21, kc22, kc23, kc24, kc25, kc26, kc27, kc28, kc29, kc30, kc31, kc32, kc33] at q6
        refine hX _ ?_; conv => whnf
        refine hX _ ?_; conv => whnf
        exact hR
      · exfalso
        (try simp (disch := omega) only [bg_w_id, Int.toNat_natCast, rw_land, sh_land, not_true_eq_false, hc, kc0, kc1, kc2, kc3, kc4, kc5, kc6, kc7, kc8, kc9, kc10, kc11, kc12, kc13, kc14, kc15, kc16, kc17, kc18, kc19, kc20, kc21, kc22, kc23, kc24, kc25, kc26, kc27, kc28, kc29, kc30, kc31, kc32, kc33] at q6) <;> (omega)
    · have r := hr i hi
      have lt := stN_lt (fun k => decide (0 ≤ h c k)) i
      have p1 : 2 ^ i ≤ 2 ^ 3 := Nat.pow_le_pow_right (by decide) (by omega)
      rw [stN_s] at ih
      by_cases c1 : 0 ≤ h c i
      · have eb : bg_or ((stN i (fun k => decide (0 ≤ h c k)) : Nat) : Int) (bg_shl 1 i) = ((stN i (fun k => decide (0 ≤ h c k)) ||| 2 ^ i : Nat) : Int) := by rw [bn_bit (by omega), bn_or (by omega) (by omega)]
        rw [if_pos (by simpa using c1)] at ih
        iterate 2 (refine hX _ ?_; conv => whnf)
        refine hX _ ?_; conv => whnf
        refine ⟨fun q6 => ?_, fun q6 => ?_⟩
        · exfalso
          (try simp (disch := omega) only [bg_w_id, Int.toNat_natCast, rw_land, sh_land, not_true_eq_false, hc, kc0, kc1, kc2, kc3, kc4, kc5, kc6, kc7, kc8, kc9, kc10, kc11, kc12, kc13, kc14, kc15, kc16, kc17, kc18, kc19, kc20, kc21, kc22, kc23, kc24, kc25, kc26, kc27, kc28, kc29, kc30, kc31, kc32, kc33] at q6) <;> (omega)
        · try simp (disch := omega) only [bg_w_id, Int.toNat_natCast, rw_land, sh_land, not_true_eq_false, hc, kc0, kc1, kc2, kc3, kc4, kc5, kc6, kc7, kc8, kc9, kc10, kc11, kc12, kc13, kc14, kc15, kc16, kc17, kc18, kc19, kc20, kc21, kc22, kc23, kc24, kc25, kc26, kc27, kc28, kc29, kc30, kc31, kc32, kc33] at q6
          iterate 2 (refine hX _ ?_; conv => whnf)
          refine hX _ ?_; conv => whnf
          try (simp (disch := omega) only [bg_w_id, Int.toNat_natCast, rw_land, sh_land, not_true_eq_false, hc]; try conv => whnf)
          refine hX _ ?_; conv => whnf
          refine ⟨fun q12 => ?_, fun q12 => ?_⟩
          · exfalso
            (try simp (disch := omega) only [bg_w_id, Int.toNat_natCast, rw_land, sh_land, not_true_eq_false, hc, kc0, kc1, kc2, kc3, kc4, kc5, kc6, kc7, kc8, kc9, kc10, kc11, kc12, kc13, kc14, kc15, kc16, kc17, kc18, kc19, kc20, kc21, kc22, kc23, kc24, kc25, kc26, kc27, kc28, kc29, kc30, kc31, kc32, kc33] at q12) <;> (omega)
          · try simp (disch := omega) only [bg_w_id, Int.toNat_natCast, rw_land, sh_land, not_true_eq_false, hc, kc0, kc1, kc2, kc3, kc4, kc5, kc6, kc7, kc8, kc9, kc10, kc11, kc12, kc13, kc14, kc15, kc16, kc17, kc18, kc19, kc20, kc21, kc22, kc23, kc24, kc25, kc26, kc27, kc28, kc29, kc30, kc31, kc32, kc33] at q12
            iterate 2 (refine hX _ ?_; conv => whnf)
            refine hX _ ?_; conv => whnf
            try (simp (disch := omega) only [bg_w_id, Int.toNat_natCast, rw_land, sh_land, not_true_eq_false, hc]; try conv => whnf)
            refine ⟨by first | omega | (simp (disch := omega) only [bg_w_id, Int.toNat_natCast, rw_land, sh_land, not_true_eq_false, hc]; omega), ?_⟩
            refine hX _ ?_; conv => whnf
            refine hX _ ?_; conv => whnf
            refine ⟨fun q19 => ?_, fun q19 => ?_⟩
            · exfalso
              (try simp (disch := omega) only [bg_w_id, Int.toNat_natCast, rw_land, sh_land, not_true_eq_false, hc, kc0, kc1, kc2, kc3, kc4, kc5, kc6, kc7, kc8, kc9, kc10, kc11, kc12, kc13, kc14, kc15, kc16, kc17, kc18, kc19, kc20, kc21, kc22, kc23, kc24, kc25, kc26, kc27, kc28, kc29, kc30, kc31, kc32, kc33] at q19) <;> (omega)
            · try simp (disch := omega) only [bg_w_id, Int.toNat_natCast, rw_land, sh_land, not_true_eq_false, hc, kc0, kc1, kc2, kc3, kc4, kc5, kc6, kc7, kc8, kc9, kc10, kc11, kc12, kc13, kc14, kc15, kc16, kc17, kc18, kc19, kc20, kc21, kc22, kc23, kc24, kc25, kc26, kc27, kc28, kc29, kc30, kc31, kc32, kc33] at q19
              iterate 8 (refine hX _ ?_; conv => whnf)
              rw [eb]
              exact ih
      · rw [if_neg (by simpa using c1)] at ih
        iterate 2 (refine hX _ ?_; conv => whnf)
        refine hX _ ?_; conv => whnf
        refine ⟨fun q6 => ?_, fun q6 => ?_⟩
        · exfalso
          (try simp (disch := omega) only [bg_w_id, Int.toNat_natCast, rw_land, sh_land, not_true_eq_false, hc, kc0, kc1, kc2, kc3, kc4, kc5, kc6, kc7, kc8, kc9, kc10, kc11, kc12, kc13, kc14, kc15, kc16, kc17, kc18, kc19, kc20, kc21, kc22, kc23, kc24, kc25, kc26, kc27, kc28, kc29, kc30, kc31, kc32, kc33] at q6) <;> (omega)
        · try simp (disch := omega) only [bg_w_id, Int.toNat_natCast, rw_land, sh_land, not_true_eq_false, hc, kc0, kc1, kc2, kc3, kc4, kc5, kc6, kc7, kc8, kc9, kc10, kc11, kc12, kc13, kc14, kc15, kc16, kc17, kc18, kc19, kc20, kc21, kc22, kc23, kc24, kc25, kc26, kc27, kc28, kc29, kc30, kc31, kc32, kc33] at q6
          iterate 2 (refine hX _ ?_; conv => whnf)
          refine hX _ ?_; conv => whnf
          try (simp (disch := omega) only [bg_w_id, Int.toNat_natCast, rw_land, sh_land, not_true_eq_false, hc]; try conv => whnf)
          refine hX _ ?_; conv => whnf
          refine ⟨fun q12 => ?_, fun q12 => ?_⟩
          · exfalso
            (try simp (disch := omega) only [bg_w_id, Int.toNat_natCast, rw_land, sh_land, not_true_eq_false, hc, kc0, kc1, kc2, kc3, kc4, kc5, kc6, kc7, kc8, kc9, kc10, kc11, kc12, kc13, kc14, kc15, kc16, kc17, kc18, kc19, kc20, kc21, kc22, kc23, kc24, kc25, kc26, kc27, kc28, kc29, kc30, kc31, kc32, kc33] at q12) <;> (omega)
          · try simp (disch := omega) only [bg_w_id, Int.toNat_natCast, rw_land, sh_land, not_true_eq_false, hc, kc0, kc1, kc2, kc3, kc4, kc5, kc6, kc7, kc8, kc9, kc10, kc11, kc12, kc13, kc14, kc15, kc16, kc17, kc18, kc19, kc20, kc21, kc22, kc23, kc24, kc25, kc26, kc27, kc28, kc29, kc30, kc31, kc32, kc33] at q12
            iterate 2 (refine hX _ ?_; conv => whnf)
            refine hX _ ?_; conv => whnf
            try (simp (disch := omega) only [bg_w_id, Int.toNat_natCast, rw_land, sh_land, not_true_eq_false, hc]; try conv => whnf)
            refine ⟨by first | omega | (simp (disch := omega) only [bg_w_id, Int.toNat_natCast, rw_land, sh_land, not_true_eq_false, hc]; omega), ?_⟩
            refine hX _ ?_; conv => whnf
            refine hX _ ?_; conv => whnf
            refine ⟨fun q19 => ?_, fun q19 => ?_⟩
            · try simp (disch := omega) only [bg_w_id, Int.toNat_natCast, rw_land, sh_land, not_true_eq_false, hc, kc0, kc1, kc2, kc3, kc4, kc5, kc6, kc7, kc8, kc9, kc10, kc11, kc12, kc13, kc14, kc15, kc16, kc17, kc18, kc19, kc20, kc21, kc22, kc23, kc24, kc25, kc26, kc27, kc28, kc29, kc30, kc31, kc32, kc33] at q19
              iterate 2 (refine hX _ ?_; conv => whnf)
              exact ih
            · exfalso
              (try simp (disch := omega) only [bg_w_id, Int.toNat_natCast, rw_land, sh_land, not_true_eq_false, hc, kc0, kc1, kc2, kc3, kc4, kc5, kc6, kc7, kc8, kc9, kc10, kc11, kc12, kc13, kc14, kc15, kc16, kc17, kc18, kc19, kc20, kc21, kc22, kc23, kc24, kc25, kc26, kc27, kc28, kc29, kc30, kc31, kc32, kc33] at q19) <;> (omega)
  iterate 4 (refine hX _ ?_; conv => whnf)
  exact l1 0 (by omega)
theorem s_toldG (d n : Nat) (h : bg_G) (hr : ∀ k : Nat, k < 4 → -1 ≤ h 54 k ∧ h 54 k ≤ 32768) (Rt : bg_R) (hR : Rt (some (.inl (tSet (fun k => h 54 k) : Nat))) (bg_SH n, h)) : bg_Ca bg_MS (d + 2) 45 [vR 53] (bg_SH n, h) Rt := by
  refine bg_ca (cd := cd_X3_toldGuards) rfl rfl ?_
  intro X hX
  iterate 2 (refine hX _ ?_; conv => whnf)
  refine hX _ ?_; conv => whnf
  try simp (disch := omega) only [bg_w_id, Int.toNat_natCast, rw_land, sh_land, not_true_eq_false]
  refine s_toldOf d n 54 h rfl hr _ ?_
  conv => whnf
  refine hX _ ?_; conv => whnf
  exact hR
theorem s_toldK (d n : Nat) (h : bg_G) (hr : ∀ k : Nat, k < 4 → -1 ≤ h 55 k ∧ h 55 k ≤ 32768) (Rt : bg_R) (hR : Rt (some (.inl (tSet (fun k => h 55 k) : Nat))) (bg_SH n, h)) : bg_Ca bg_MS (d + 2) 46 [vR 53] (bg_SH n, h) Rt := by
  refine bg_ca (cd := cd_X3_toldCarriers) rfl rfl ?_
  intro X hX
  iterate 2 (refine hX _ ?_; conv => whnf)
  refine hX _ ?_; conv => whnf
  try simp (disch := omega) only [bg_w_id, Int.toNat_natCast, rw_land, sh_land, not_true_eq_false]
  refine s_toldOf d n 55 h rfl hr _ ?_
  conv => whnf
  refine hX _ ?_; conv => whnf
  exact hR
theorem rw_brg {k : Nat} (h : k < 4) : bg_nth [some 58, some 59, some 60, some 61] k = some (some (58 + k)) := by
  match k, h with
  | 0, _ => rfl
  | 1, _ => rfl
  | 2, _ => rfl
  | 3, _ => rfl
  | k + 4, h => exact absurd h (by omega)
theorem sh_brg {n k : Nat} (h : k < 4) : bg_nth (bg_SH n) (58 + k) = some (10, 4, []) := by
  match k, h with
  | 0, _ => rfl
  | 1, _ => rfl
  | 2, _ => rfl
  | 3, _ => rfl
  | k + 4, h => exact absurd h (by omega)
theorem lot_rg {h : bg_G} (hI : INV h) : ∀ k : Nat, k < 4 → (-1 ≤ h 54 k ∧ h 54 k ≤ 32768) ∧ (-1 ≤ h 55 k ∧ h 55 k < (wsM h).length) ∧ (h 54 k = h 122 k ∧ h 55 k = h 123 k) ∧ (h 54 k = -1 ∨ okS (h 117 0) (h 119 0) (h 54 k)) := fun k hk => by
  obtain ⟨a, b⟩ := inv_lot hI
  have x := a k hk
  have y := b k hk
  rw [y.1, y.2]
  refine ⟨?_, x.2, ⟨rfl, rfl⟩, ?_⟩
  · rcases x.1 with e | ⟨e1, e2⟩
    · omega
    · have := e1.1
      omega
  · rcases x.1 with e | e
    · exact Or.inl e
    · exact Or.inr e.1
/-- what carrier c brings by guard g stands in the game -/
def GME (h h' : bg_G) : Prop := (∀ k, ¬ (58 ≤ k ∧ k ≤ 61) → h' k = h k) ∧ ∀ g c : Nat, g < 4 → c < 4 → h' (58 + g) c = bgM h g c
theorem s_setUp (d n : Nat) (h : bg_G) (hI : INV h) (Rt : bg_R) (hR : ∀ h' : bg_G, GME h h' → Rt none (bg_SH n, h')) : bg_Ca bg_MS (d + 4) 111 [vR 2] (bg_SH n, h) Rt := by
  have r := inv_REL hI
  have lo := lot_rg hI
  have tb := inv_tbl hI
  have wl : (wsM h).length ≤ 400 := tb.2.1
  have t1 := tb.1
  refine bg_ca (cd := cd_X8_setUpGame) rfl rfl ?_
  intro X hX
  have l1 : ∀ g, g ≤ 4 → ∀ (h' : bg_G) (j2 j3 j4 j5 j6 : Option bg_V), (∀ k, ¬ (58 ≤ k ∧ k ≤ 61) → h' k = h k) → (∀ g' c : Nat, g' < g → c < 4 → h' (58 + g') c = bgM h g' c) → X (2, [oR 2, oI (g : Int), j2, j3, j4, j5, j6], [], (bg_SH n, h'), (0, 0)) := by
    refine lp_up 4 _ ?_ (fun g hg ih => ?_)
    · intro h' j2 j3 j4 j5 j6 f1 f2
      iterate 2 (refine hX _ ?_; conv => whnf)
      refine hX _ ?_; conv => whnf
      refine ⟨fun q4 => ?_, fun q4 => ?_⟩
      · try simp (disch := omega) only [bg_w_id, Int.toNat_natCast, rw_land, sh_land, not_true_eq_false, kc0, kc1, kc2, kc3, kc4, kc5, kc6, kc7, kc8, kc9, kc10, kc11, kc12, kc13, kc14, kc15, kc16, kc17, kc18, kc19, kc20, kc21, kc22, kc23, kc24, kc25, kc26, kc27, kc28, kc29, kc30, kc31, kc32, kc33] at q4
        refine hX _ ?_; conv => whnf
        exact hR h' ⟨f1, f2⟩
      · exfalso
        (try simp (disch := omega) only [bg_w_id, Int.toNat_natCast, rw_land, sh_land, not_true_eq_false, kc0, kc1, kc2, kc3, kc4, kc5, kc6, kc7, kc8, kc9, kc10, kc11, kc12, kc13, kc14, kc15, kc16, kc17, kc18, kc19, kc20, kc21, kc22, kc23, kc24, kc25, kc26, kc27, kc28, kc29, kc30, kc31, kc32, kc33] at q4) <;> (omega)
    · intro h' j2 j3 j4 j5 j6 f1 f2
      have lg := lo g hg
      -- the row of guard g
      have l2 : ∀ (held : Int), (0 ≤ h 54 g → held = heldM h (h 122 g)) → ∀ c, c ≤ 4 → ∀ (h2 : bg_G) (j5 j6 : Option bg_V), (∀ k, ¬ (58 ≤ k ∧ k ≤ 61) → h2 k = h k) → (∀ g' c : Nat, g' < g → c < 4 → h2 (58 + g') c = bgM h g' c) → (∀ c' : Nat, c' < c → h2 (58 + g) c' = bgM h g c') → X (38, [oR 2, oI (g : Int), oI (h 54 g), oI held, oI (c : Int), j5, j6], [], (bg_SH n, h2), (0, 0)) := by
        intro held hh
        refine lp_up 4 _ ?_ (fun c hc ih2 => ?_)
        · intro h2 j5 j6 g1 g2 g3
          iterate 2 (refine hX _ ?_; conv => whnf)
          refine hX _ ?_; conv => whnf
          refine ⟨fun q41 => ?_, fun q41 => ?_⟩
          · try simp (disch := omega) only [bg_w_id, Int.toNat_natCast, rw_land, sh_land, not_true_eq_false, kc0, kc1, kc2, kc3, kc4, kc5, kc6, kc7, kc8, kc9, kc10, kc11, kc12, kc13, kc14, kc15, kc16, kc17, kc18, kc19, kc20, kc21, kc22, kc23, kc24, kc25, kc26, kc27, kc28, kc29, kc30, kc31, kc32, kc33] at q41
            iterate 2 (refine hX _ ?_; conv => whnf)
            refine ih h2 _ _ _ _ _ g1 (fun g' c hg' hc => ?_)
            by_cases e : g' = g
            · subst e; exact g3 c hc
            · exact g2 g' c (by omega) hc
          · exfalso
            (try simp (disch := omega) only [bg_w_id, Int.toNat_natCast, rw_land, sh_land, not_true_eq_false, kc0, kc1, kc2, kc3, kc4, kc5, kc6, kc7, kc8, kc9, kc10, kc11, kc12, kc13, kc14, kc15, kc16, kc17, kc18, kc19, kc20, kc21, kc22, kc23, kc24, kc25, kc26, kc27, kc28, kc29, kc30, kc31, kc32, kc33] at q41) <;> (omega)
        · intro h2 j5 j6 g1 g2 g3
          have lc := lo c hc
          have e54 : h2 55 (c : Int) = h 55 c := by rw [g1 55 (by omega)]
          have e41 : h2 41 5 = ((wsM h).length : Nat) := by rw [g1 41 (by omega)]; exact t1
          have nx : ∀ (v : Int) (j5 j6 : Option bg_V), v = bgM h g c → X (38, [oR 2, oI (g : Int), oI (h 54 g), oI held, oI ((c : Int) + 1), j5, j6], [], (bg_SH n, bg_up h2 (58 + g) c v), (0, 0)) := by
            intro v j5 j6 ev
            refine ih2 _ _ _ (fun k hk => by rw [bg_up_ne (by omega)]; exact g1 k hk) (fun g' c' hg' hc' => by rw [bg_up_ne (by omega)]; exact g2 g' c' hg' hc') (fun c' hc' => ?_)
            by_cases e : c' = c
            · subst e; rw [bg_up_self]; exact ev
            · rw [bg_up_nj (by omega)]; exact g3 c' (by omega)
          by_cases c1 : 0 ≤ h 54 g ∧ 0 ≤ h 55 c
          · obtain ⟨w, hw⟩ : ∃ w : Nat, h 55 c = w := ⟨(h 55 c).toNat, by omega⟩
            have hw2 : w < (wsM h).length := by omega
            obtain ⟨u1, u2, u3⟩ := tb.2.2 w hw2
            have er : h2 41 = h 41 := g1 41 (by omega)
            have ok2 : okC h2 := okC_fr r.1 (fun k a b => g1 k (by omega))
            have ev : thr 2147483647 (fun p => bearC h2 held p 0) (lenW (wsM h) w) (ptW (wsM h) w) = bgM h g c := by
              unfold bgM gmM
              rw [if_pos ⟨by omega, by omega⟩, ← thr_eq r (by omega), ← hh c1.1, show (h 123 (c : Int)).toNat = w by omega]
              unfold thrC
              rw [show (fun p => bearC h2 held p 0) = fun p => bearC h2 held p 0 from rfl]
              refine thr_congr _ (fun i hi => ?_) u1.1
              have hp := (u3 i hi).1
              have e24 := g1 (24 + ptW (wsM h) w i) (by omega)
              have rg := bearC_rg r.1 (held := held) (b := 0) hp (by omega)
              rw [bearC_fr e24]
              omega
            iterate 2 (refine hX _ ?_; conv => whnf)
            refine hX _ ?_; conv => whnf
            refine ⟨fun q41 => ?_, fun q41 => ?_⟩
            · exfalso
              (try simp (disch := omega) only [bg_w_id, Int.toNat_natCast, rw_land, sh_land, not_true_eq_false, e54, hw, e41, rw_brg, sh_brg, kc0, kc1, kc2, kc3, kc4, kc5, kc6, kc7, kc8, kc9, kc10, kc11, kc12, kc13, kc14, kc15, kc16, kc17, kc18, kc19, kc20, kc21, kc22, kc23, kc24, kc25, kc26, kc27, kc28, kc29, kc30, kc31, kc32, kc33] at q41) <;> (omega)
            · try simp (disch := omega) only [bg_w_id, Int.toNat_natCast, rw_land, sh_land, not_true_eq_false, e54, hw, e41, rw_brg, sh_brg, kc0, kc1, kc2, kc3, kc4, kc5, kc6, kc7, kc8, kc9, kc10, kc11, kc12, kc13, kc14, kc15, kc16, kc17, kc18, kc19, kc20, kc21, kc22, kc23, kc24, kc25, kc26, kc27, kc28, kc29, kc30, kc31, kc32, kc33] at q41
              iterate 4 (refine hX _ ?_; conv => whnf)
              refine hX _ ?_; conv => whnf
              try (simp (disch := omega) only [bg_w_id, Int.toNat_natCast, rw_land, sh_land, not_true_eq_false, e54, hw, e41, rw_brg, sh_brg]; try conv => whnf)
              refine ⟨by first | omega | (simp (disch := omega) only [bg_w_id, Int.toNat_natCast, rw_land, sh_land, not_true_eq_false, e54, hw, e41, rw_brg, sh_brg]; omega), ?_⟩
              iterate 3 (refine hX _ ?_; conv => whnf)
              refine hX _ ?_; conv => whnf
              refine ⟨fun q58 => ?_, fun q58 => ?_⟩
              · exfalso
                (try simp (disch := omega) only [bg_w_id, Int.toNat_natCast, rw_land, sh_land, not_true_eq_false, e54, hw, e41, rw_brg, sh_brg, kc0, kc1, kc2, kc3, kc4, kc5, kc6, kc7, kc8, kc9, kc10, kc11, kc12, kc13, kc14, kc15, kc16, kc17, kc18, kc19, kc20, kc21, kc22, kc23, kc24, kc25, kc26, kc27, kc28, kc29, kc30, kc31, kc32, kc33] at q58) <;> (omega)
              · try simp (disch := omega) only [bg_w_id, Int.toNat_natCast, rw_land, sh_land, not_true_eq_false, e54, hw, e41, rw_brg, sh_brg, kc0, kc1, kc2, kc3, kc4, kc5, kc6, kc7, kc8, kc9, kc10, kc11, kc12, kc13, kc14, kc15, kc16, kc17, kc18, kc19, kc20, kc21, kc22, kc23, kc24, kc25, kc26, kc27, kc28, kc29, kc30, kc31, kc32, kc33] at q58
                refine hX _ ?_; conv => whnf
                refine hX _ ?_; conv => whnf
                refine ⟨fun q63 => ?_, fun q63 => ?_⟩
                · exfalso
                  (try simp (disch := omega) only [bg_w_id, Int.toNat_natCast, rw_land, sh_land, not_true_eq_false, e54, hw, e41, rw_brg, sh_brg, kc0, kc1, kc2, kc3, kc4, kc5, kc6, kc7, kc8, kc9, kc10, kc11, kc12, kc13, kc14, kc15, kc16, kc17, kc18, kc19, kc20, kc21, kc22, kc23, kc24, kc25, kc26, kc27, kc28, kc29, kc30, kc31, kc32, kc33] at q63) <;> (omega)
                · try simp (disch := omega) only [bg_w_id, Int.toNat_natCast, rw_land, sh_land, not_true_eq_false, e54, hw, e41, rw_brg, sh_brg, kc0, kc1, kc2, kc3, kc4, kc5, kc6, kc7, kc8, kc9, kc10, kc11, kc12, kc13, kc14, kc15, kc16, kc17, kc18, kc19, kc20, kc21, kc22, kc23, kc24, kc25, kc26, kc27, kc28, kc29, kc30, kc31, kc32, kc33] at q63
                  iterate 4 (refine hX _ ?_; conv => whnf)
                  try simp only [kc0, kc1, kc2, kc3, kc4, kc5, kc6, kc7, kc8, kc9, kc10, kc11, kc12, kc13, kc14, kc15, kc16, kc17, kc18, kc19, kc20, kc21, kc22, kc23, kc24, kc25, kc26, kc27, kc28, kc29, kc30, kc31, kc32, kc33]
                  refine hX _ ?_; conv => whnf
                  refine ⟨fun q75 => ?_, fun q75 => ?_⟩
                  · exfalso
                    (try simp (disch := omega) only [bg_w_id, Int.toNat_natCast, rw_land, sh_land, not_true_eq_false, e54, hw, e41, rw_brg, sh_brg, kc0, kc1, kc2, kc3, kc4, kc5, kc6, kc7, kc8, kc9, kc10, kc11, kc12, kc13, kc14, kc15, kc16, kc17, kc18, kc19, kc20, kc21, kc22, kc23, kc24, kc25, kc26, kc27, kc28, kc29, kc30, kc31, kc32, kc33] at q75) <;> (omega)
                  · try simp (disch := omega) only [bg_w_id, Int.toNat_natCast, rw_land, sh_land, not_true_eq_false, e54, hw, e41, rw_brg, sh_brg, kc0, kc1, kc2, kc3, kc4, kc5, kc6, kc7, kc8, kc9, kc10, kc11, kc12, kc13, kc14, kc15, kc16, kc17, kc18, kc19, kc20, kc21, kc22, kc23, kc24, kc25, kc26, kc27, kc28, kc29, kc30, kc31, kc32, kc33] at q75
                    iterate 7 (refine hX _ ?_; conv => whnf)
                    refine hX _ ?_; conv => whnf
                    try (simp (disch := omega) only [bg_w_id, Int.toNat_natCast, rw_land, sh_land, not_true_eq_false, e54, hw, e41, rw_brg, sh_brg]; try conv => whnf)
                    refine ⟨by first | omega | (simp (disch := omega) only [bg_w_id, Int.toNat_natCast, rw_land, sh_land, not_true_eq_false, e54, hw, e41, rw_brg, sh_brg]; omega), ?_⟩
                    try (simp (disch := omega) only [bg_w_id, Int.toNat_natCast, rw_land, sh_land, not_true_eq_false, e54, hw, e41, rw_brg, sh_brg])
                    try conv => whnf
                    iterate 2 (refine hX _ ?_; conv => whnf)
                    refine hX _ ?_; conv => whnf
                    refine ⟨fun q98 => ?_, fun q98 => ?_⟩
                    · exfalso
                      (try simp (disch := omega) only [bg_w_id, Int.toNat_natCast, rw_land, sh_land, not_true_eq_false, e54, hw, e41, rw_brg, sh_brg, kc0, kc1, kc2, kc3, kc4, kc5, kc6, kc7, kc8, kc9, kc10, kc11, kc12, kc13, kc14, kc15, kc16, kc17, kc18, kc19, kc20, kc21, kc22, kc23, kc24, kc25, kc26, kc27, kc28, kc29, kc30, kc31, kc32, kc33] at q98) <;> (omega)
                    · try simp (disch := omega) only [bg_w_id, Int.toNat_natCast, rw_land, sh_land, not_true_eq_false, e54, hw, e41, rw_brg, sh_brg, kc0, kc1, kc2, kc3, kc4, kc5, kc6, kc7, kc8, kc9, kc10, kc11, kc12, kc13, kc14, kc15, kc16, kc17, kc18, kc19, kc20, kc21, kc22, kc23, kc24, kc25, kc26, kc27, kc28, kc29, kc30, kc31, kc32, kc33] at q98
                      iterate 6 (refine hX _ ?_; conv => whnf)
                      refine hX _ ?_; conv => whnf
                      try simp (disch := omega) only [bg_w_id, Int.toNat_natCast, rw_land, sh_land, not_true_eq_false, e54, hw, e41, rw_brg, sh_brg]
                      refine s_leastBearing d n w (lenW (wsM h) w) (ptW (wsM h) w) held h2 ok2 (by omega) (by rw [g1 43 (by omega)]; exact u2) (by omega) (fun i hi => by rw [g1 42 (by omega)]; exact u3 i hi) _ ?_
                      rw [ev]
                      conv => whnf
                      refine hX _ ?_; conv => whnf
                      refine hX _ ?_; conv => whnf
                      try (simp (disch := omega) only [bg_w_id, Int.toNat_natCast, rw_land, sh_land, not_true_eq_false, e54, hw, e41, rw_brg, sh_brg]; try conv => whnf)
                      refine ⟨by first | omega | (simp (disch := omega) only [bg_w_id, Int.toNat_natCast, rw_land, sh_land, not_true_eq_false, e54, hw, e41, rw_brg, sh_brg]; omega), ?_⟩
                      iterate 2 (refine hX _ ?_; conv => whnf)
                      exact nx _ _ _ rfl
          · have ev : (0 : Int) = bgM h g c := by
              unfold bgM
              rw [if_neg (by omega)]
            by_cases c2 : h 54 g = -1
            · iterate 2 (refine hX _ ?_; conv => whnf)
              refine hX _ ?_; conv => whnf
              refine ⟨fun q41 => ?_, fun q41 => ?_⟩
              · exfalso
                (try simp (disch := omega) only [bg_w_id, Int.toNat_natCast, rw_land, sh_land, not_true_eq_false, e54, rw_brg, sh_brg, kc0, kc1, kc2, kc3, kc4, kc5, kc6, kc7, kc8, kc9, kc10, kc11, kc12, kc13, kc14, kc15, kc16, kc17, kc18, kc19, kc20, kc21, kc22, kc23, kc24, kc25, kc26, kc27, kc28, kc29, kc30, kc31, kc32, kc33] at q41) <;> (omega)
              · try simp (disch := omega) only [bg_w_id, Int.toNat_natCast, rw_land, sh_land, not_true_eq_false, e54, rw_brg, sh_brg, kc0, kc1, kc2, kc3, kc4, kc5, kc6, kc7, kc8, kc9, kc10, kc11, kc12, kc13, kc14, kc15, kc16, kc17, kc18, kc19, kc20, kc21, kc22, kc23, kc24, kc25, kc26, kc27, kc28, kc29, kc30, kc31, kc32, kc33] at q41
                iterate 4 (refine hX _ ?_; conv => whnf)
                refine hX _ ?_; conv => whnf
                try (simp (disch := omega) only [bg_w_id, Int.toNat_natCast, rw_land, sh_land, not_true_eq_false, e54, rw_brg, sh_brg]; try conv => whnf)
                refine ⟨by first | omega | (simp (disch := omega) only [bg_w_id, Int.toNat_natCast, rw_land, sh_land, not_true_eq_false, e54, rw_brg, sh_brg]; omega), ?_⟩
                iterate 3 (refine hX _ ?_; conv => whnf)
                refine hX _ ?_; conv => whnf
                refine ⟨fun q58 => ?_, fun q58 => ?_⟩
                · try simp (disch := omega) only [bg_w_id, Int.toNat_natCast, rw_land, sh_land, not_true_eq_false, e54, rw_brg, sh_brg, kc0, kc1, kc2, kc3, kc4, kc5, kc6, kc7, kc8, kc9, kc10, kc11, kc12, kc13, kc14, kc15, kc16, kc17, kc18, kc19, kc20, kc21, kc22, kc23, kc24, kc25, kc26, kc27, kc28, kc29, kc30, kc31, kc32, kc33] at q58
                  iterate 6 (refine hX _ ?_; conv => whnf)
                  refine hX _ ?_; conv => whnf
                  try (simp (disch := omega) only [bg_w_id, Int.toNat_natCast, rw_land, sh_land, not_true_eq_false, e54, rw_brg, sh_brg]; try conv => whnf)
                  refine ⟨by first | omega | (simp (disch := omega) only [bg_w_id, Int.toNat_natCast, rw_land, sh_land, not_true_eq_false, e54, rw_brg, sh_brg]; omega), ?_⟩
                  try (simp (disch := omega) only [bg_w_id, Int.toNat_natCast, rw_land, sh_land, not_true_eq_false, e54, rw_brg, sh_brg])
                  try conv => whnf
                  iterate 2 (refine hX _ ?_; conv => whnf)
                  refine hX _ ?_; conv => whnf
                  refine ⟨fun q98 => ?_, fun q98 => ?_⟩
                  · try simp (disch := omega) only [bg_w_id, Int.toNat_natCast, rw_land, sh_land, not_true_eq_false, e54, rw_brg, sh_brg, kc0, kc1, kc2, kc3, kc4, kc5, kc6, kc7, kc8, kc9, kc10, kc11, kc12, kc13, kc14, kc15, kc16, kc17, kc18, kc19, kc20, kc21, kc22, kc23, kc24, kc25, kc26, kc27, kc28, kc29, kc30, kc31, kc32, kc33] at q98
                    refine hX _ ?_; conv => whnf
                    refine hX _ ?_; conv => whnf
                    try (simp (disch := omega) only [bg_w_id, Int.toNat_natCast, rw_land, sh_land, not_true_eq_false, e54, rw_brg, sh_brg]; try conv => whnf)
                    refine ⟨by first | omega | (simp (disch := omega) only [bg_w_id, Int.toNat_natCast, rw_land, sh_land, not_true_eq_false, e54, rw_brg, sh_brg]; omega), ?_⟩
                    iterate 2 (refine hX _ ?_; conv => whnf)
                    exact nx _ _ _ ev
                  · exfalso
                    (try simp (disch := omega) only [bg_w_id, Int.toNat_natCast, rw_land, sh_land, not_true_eq_false, e54, rw_brg, sh_brg, kc0, kc1, kc2, kc3, kc4, kc5, kc6, kc7, kc8, kc9, kc10, kc11, kc12, kc13, kc14, kc15, kc16, kc17, kc18, kc19, kc20, kc21, kc22, kc23, kc24, kc25, kc26, kc27, kc28, kc29, kc30, kc31, kc32, kc33] at q98) <;> (omega)
                · exfalso
                  (try simp (disch := omega) only [bg_w_id, Int.toNat_natCast, rw_land, sh_land, not_true_eq_false, e54, rw_brg, sh_brg, kc0, kc1, kc2, kc3, kc4, kc5, kc6, kc7, kc8, kc9, kc10, kc11, kc12, kc13, kc14, kc15, kc16, kc17, kc18, kc19, kc20, kc21, kc22, kc23, kc24, kc25, kc26, kc27, kc28, kc29, kc30, kc31, kc32, kc33] at q58) <;> (omega)
            · iterate 2 (refine hX _ ?_; conv => whnf)
              refine hX _ ?_; conv => whnf
              refine ⟨fun q41 => ?_, fun q41 => ?_⟩
              · exfalso
                (try simp (disch := omega) only [bg_w_id, Int.toNat_natCast, rw_land, sh_land, not_true_eq_false, e54, rw_brg, sh_brg, kc0, kc1, kc2, kc3, kc4, kc5, kc6, kc7, kc8, kc9, kc10, kc11, kc12, kc13, kc14, kc15, kc16, kc17, kc18, kc19, kc20, kc21, kc22, kc23, kc24, kc25, kc26, kc27, kc28, kc29, kc30, kc31, kc32, kc33] at q41) <;> (omega)
              · try simp (disch := omega) only [bg_w_id, Int.toNat_natCast, rw_land, sh_land, not_true_eq_false, e54, rw_brg, sh_brg, kc0, kc1, kc2, kc3, kc4, kc5, kc6, kc7, kc8, kc9, kc10, kc11, kc12, kc13, kc14, kc15, kc16, kc17, kc18, kc19, kc20, kc21, kc22, kc23, kc24, kc25, kc26, kc27, kc28, kc29, kc30, kc31, kc32, kc33] at q41
                iterate 4 (refine hX _ ?_; conv => whnf)
                refine hX _ ?_; conv => whnf
                try (simp (disch := omega) only [bg_w_id, Int.toNat_natCast, rw_land, sh_land, not_true_eq_false, e54, rw_brg, sh_brg]; try conv => whnf)
                refine ⟨by first | omega | (simp (disch := omega) only [bg_w_id, Int.toNat_natCast, rw_land, sh_land, not_true_eq_false, e54, rw_brg, sh_brg]; omega), ?_⟩
                iterate 3 (refine hX _ ?_; conv => whnf)
                refine hX _ ?_; conv => whnf
                refine ⟨fun q58 => ?_, fun q58 => ?_⟩
                · exfalso
                  (try simp (disch := omega) only [bg_w_id, Int.toNat_natCast, rw_land, sh_land, not_true_eq_false, e54, rw_brg, sh_brg, kc0, kc1, kc2, kc3, kc4, kc5, kc6, kc7, kc8, kc9, kc10, kc11, kc12, kc13, kc14, kc15, kc16, kc17, kc18, kc19, kc20, kc21, kc22, kc23, kc24, kc25, kc26, kc27, kc28, kc29, kc30, kc31, kc32, kc33] at q58) <;> (omega)
                · try simp (disch := omega) only [bg_w_id, Int.toNat_natCast, rw_land, sh_land, not_true_eq_false, e54, rw_brg, sh_brg, kc0, kc1, kc2, kc3, kc4, kc5, kc6, kc7, kc8, kc9, kc10, kc11, kc12, kc13, kc14, kc15, kc16, kc17, kc18, kc19, kc20, kc21, kc22, kc23, kc24, kc25, kc26, kc27, kc28, kc29, kc30, kc31, kc32, kc33] at q58
                  refine hX _ ?_; conv => whnf
                  refine hX _ ?_; conv => whnf
                  refine ⟨fun q63 => ?_, fun q63 => ?_⟩
                  · try simp (disch := omega) only [bg_w_id, Int.toNat_natCast, rw_land, sh_land, not_true_eq_false, e54, rw_brg, sh_brg, kc0, kc1, kc2, kc3, kc4, kc5, kc6, kc7, kc8, kc9, kc10, kc11, kc12, kc13, kc14, kc15, kc16, kc17, kc18, kc19, kc20, kc21, kc22, kc23, kc24, kc25, kc26, kc27, kc28, kc29, kc30, kc31, kc32, kc33] at q63
                    iterate 6 (refine hX _ ?_; conv => whnf)
                    refine hX _ ?_; conv => whnf
                    try (simp (disch := omega) only [bg_w_id, Int.toNat_natCast, rw_land, sh_land, not_true_eq_false, e54, rw_brg, sh_brg]; try conv => whnf)
                    refine ⟨by first | omega | (simp (disch := omega) only [bg_w_id, Int.toNat_natCast, rw_land, sh_land, not_true_eq_false, e54, rw_brg, sh_brg]; omega), ?_⟩
                    try (simp (disch := omega) only [bg_w_id, Int.toNat_natCast, rw_land, sh_land, not_true_eq_false, e54, rw_brg, sh_brg])
                    try conv => whnf
                    iterate 2 (refine hX _ ?_; conv => whnf)
                    refine hX _ ?_; conv => whnf
                    refine ⟨fun q98 => ?_, fun q98 => ?_⟩
                    · try simp (disch := omega) only [bg_w_id, Int.toNat_natCast, rw_land, sh_land, not_true_eq_false, e54, rw_brg, sh_brg, kc0, kc1, kc2, kc3, kc4, kc5, kc6, kc7, kc8, kc9, kc10, kc11, kc12, kc13, kc14, kc15, kc16, kc17, kc18, kc19, kc20, kc21, kc22, kc23, kc24, kc25, kc26, kc27, kc28, kc29, kc30, kc31, kc32, kc33] at q98
                      refine hX _ ?_; conv => whnf
                      refine hX _ ?_; conv => whnf
                      try (simp (disch := omega) only [bg_w_id, Int.toNat_natCast, rw_land, sh_land, not_true_eq_false, e54, rw_brg, sh_brg]; try conv => whnf)
                      refine ⟨by first | omega | (simp (disch := omega) only [bg_w_id, Int.toNat_natCast, rw_land, sh_land, not_true_eq_false, e54, rw_brg, sh_brg]; omega), ?_⟩
                      iterate 2 (refine hX _ ?_; conv => whnf)
                      exact nx _ _ _ ev
                    · exfalso
                      (try simp (disch := omega) only [bg_w_id, Int.toNat_natCast, rw_land, sh_land, not_true_eq_false, e54, rw_brg, sh_brg, kc0, kc1, kc2, kc3, kc4, kc5, kc6, kc7, kc8, kc9, kc10, kc11, kc12, kc13, kc14, kc15, kc16, kc17, kc18, kc19, kc20, kc21, kc22, kc23, kc24, kc25, kc26, kc27, kc28, kc29, kc30, kc31, kc32, kc33] at q98) <;> (omega)
                  · exfalso
                    (try simp (disch := omega) only [bg_w_id, Int.toNat_natCast, rw_land, sh_land, not_true_eq_false, e54, rw_brg, sh_brg, kc0, kc1, kc2, kc3, kc4, kc5, kc6, kc7, kc8, kc9, kc10, kc11, kc12, kc13, kc14, kc15, kc16, kc17, kc18, kc19, kc20, kc21, kc22, kc23, kc24, kc25, kc26, kc27, kc28, kc29, kc30, kc31, kc32, kc33] at q63) <;> (omega)
      have e53 : h' 54 (g : Int) = h 54 g := by rw [f1 54 (by omega)]
      by_cases c1 : h 54 g = -1
      · have := l2 0 (fun x => absurd c1 (by omega)) 0 (by omega) h' j5 j6 f1 f2 (fun c' hc' => absurd hc' (by omega))
        iterate 2 (refine hX _ ?_; conv => whnf)
        refine hX _ ?_; conv => whnf
        refine ⟨fun q4 => ?_, fun q4 => ?_⟩
        · exfalso
          (try simp (disch := omega) only [bg_w_id, Int.toNat_natCast, rw_land, sh_land, not_true_eq_false, e53, kc0, kc1, kc2, kc3, kc4, kc5, kc6, kc7, kc8, kc9, kc10, kc11, kc12, kc13, kc14, kc15, kc16, kc17, kc18, kc19, kc20, kc21, kc22, kc23, kc24, kc25, kc26, kc27, kc28, kc29, kc30, kc31, kc32, kc33] at q4) <;> (omega)
        · try simp (disch := omega) only [bg_w_id, Int.toNat_natCast, rw_land, sh_land, not_true_eq_false, e53, kc0, kc1, kc2, kc3, kc4, kc5, kc6, kc7, kc8, kc9, kc10, kc11, kc12, kc13, kc14, kc15, kc16, kc17, kc18, kc19, kc20, kc21, kc22, kc23, kc24, kc25, kc26, kc27, kc28, kc29, kc30, kc31, kc32, kc33] at q4
          iterate 4 (refine hX _ ?_; conv => whnf)
          refine hX _ ?_; conv => whnf
          try (simp (disch := omega) only [bg_w_id, Int.toNat_natCast, rw_land, sh_land, not_true_eq_false, e53]; try conv => whnf)
          refine ⟨by first | omega | (simp (disch := omega) only [bg_w_id, Int.toNat_natCast, rw_land, sh_land, not_true_eq_false, e53]; omega), ?_⟩
          iterate 3 (refine hX _ ?_; conv => whnf)
          refine hX _ ?_; conv => whnf
          refine ⟨fun q19 => ?_, fun q19 => ?_⟩
          · exfalso
            (try simp (disch := omega) only [bg_w_id, Int.toNat_natCast, rw_land, sh_land, not_true_eq_false, e53, kc0, kc1, kc2, kc3, kc4, kc5, kc6, kc7, kc8, kc9, kc10, kc11, kc12, kc13, kc14, kc15, kc16, kc17, kc18, kc19, kc20, kc21, kc22, kc23, kc24, kc25, kc26, kc27, kc28, kc29, kc30, kc31, kc32, kc33] at q19) <;> (omega)
          · try simp (disch := omega) only [bg_w_id, Int.toNat_natCast, rw_land, sh_land, not_true_eq_false, e53, kc0, kc1, kc2, kc3, kc4, kc5, kc6, kc7, kc8, kc9, kc10, kc11, kc12, kc13, kc14, kc15, kc16, kc17, kc18, kc19, kc20, kc21, kc22, kc23, kc24, kc25, kc26, kc27, kc28, kc29, kc30, kc31, kc32, kc33] at q19
            iterate 5 (refine hX _ ?_; conv => whnf)
            exact this
      · have := l2 (heldC h (h 54 g)) (fun x => by
          rw [lg.2.2.1.1]
          refine held_eq r (by rw [← lg.2.2.1.1]; omega) ?_
          rw [← lg.2.2.1.1]
          rcases lg.2.2.2 with y | y
          · exact absurd y c1
          · exact y) 0 (by omega) h' j5 j6 f1 f2 (fun c' hc' => absurd hc' (by omega))
        iterate 2 (refine hX _ ?_; conv => whnf)
        refine hX _ ?_; conv => whnf
        refine ⟨fun q4 => ?_, fun q4 => ?_⟩
        · exfalso
          (try simp (disch := omega) only [bg_w_id, Int.toNat_natCast, rw_land, sh_land, not_true_eq_false, e53, kc0, kc1, kc2, kc3, kc4, kc5, kc6, kc7, kc8, kc9, kc10, kc11, kc12, kc13, kc14, kc15, kc16, kc17, kc18, kc19, kc20, kc21, kc22, kc23, kc24, kc25, kc26, kc27, kc28, kc29, kc30, kc31, kc32, kc33] at q4) <;> (omega)
        · try simp (disch := omega) only [bg_w_id, Int.toNat_natCast, rw_land, sh_land, not_true_eq_false, e53, kc0, kc1, kc2, kc3, kc4, kc5, kc6, kc7, kc8, kc9, kc10, kc11, kc12, kc13, kc14, kc15, kc16, kc17, kc18, kc19, kc20, kc21, kc22, kc23, kc24, kc25, kc26, kc27, kc28, kc29, kc30, kc31, kc32, kc33] at q4
          iterate 4 (refine hX _ ?_; conv => whnf)
          refine hX _ ?_; conv => whnf
          try (simp (disch := omega) only [bg_w_id, Int.toNat_natCast, rw_land, sh_land, not_true_eq_false, e53]; try conv => whnf)
          refine ⟨by first | omega | (simp (disch := omega) only [bg_w_id, Int.toNat_natCast, rw_land, sh_land, not_true_eq_false, e53]; omega), ?_⟩
          iterate 3 (refine hX _ ?_; conv => whnf)
          refine hX _ ?_; conv => whnf
          refine ⟨fun q19 => ?_, fun q19 => ?_⟩
          · try simp (disch := omega) only [bg_w_id, Int.toNat_natCast, rw_land, sh_land, not_true_eq_false, e53, kc0, kc1, kc2, kc3, kc4, kc5, kc6, kc7, kc8, kc9, kc10, kc11, kc12, kc13, kc14, kc15, kc16, kc17, kc18, kc19, kc20, kc21, kc22, kc23, kc24, kc25, kc26, kc27, kc28, kc29, kc30, kc31, kc32, kc33] at q19
            iterate 3 (refine hX _ ?_; conv => whnf)
            refine hX _ ?_; conv => whnf
            try simp (disch := omega) only [bg_w_id, Int.toNat_natCast, rw_land, sh_land, not_true_eq_false, e53]
            refine s_heldBy (d + 2) _ _ _ _ ?_
            rw [heldC_fr (f1 36 (by omega))]
            conv => whnf
            iterate 3 (refine hX _ ?_; conv => whnf)
            exact this
          · exfalso
            (try simp (disch := omega) only [bg_w_id, Int.toNat_natCast, rw_land, sh_land, not_true_eq_false, e53, kc0, kc1, kc2, kc3, kc4, kc5, kc6, kc7, kc8, kc9, kc10, kc11, kc12, kc13, kc14, kc15, kc16, kc17, kc18, kc19, kc20, kc21, kc22, kc23, kc24, kc25, kc26, kc27, kc28, kc29, kc30, kc31, kc32, kc33] at q19) <;> (omega)
  iterate 2 (refine hX _ ?_; conv => whnf)
  exact l1 0 (by omega) h _ _ _ _ _ (fun _ _ => rfl) (fun g' c hg' => absurd hg' (by omega))
theorem mxF_s (n : Nat) (b : Nat → Int) : mxF (n + 1) b = if mxF n b < b n then b n else mxF n b := rfl
theorem sm_s (n : Nat) (f : Nat → Int) : sm (n + 1) f = sm n f + f n := rfl
theorem s_worth (d n : Nat) (T : Nat → Int) (B : Nat → Nat → Int) (h : bg_G) (hT : ∀ g : Nat, g < 4 → h 74 g = T g ∧ 0 ≤ T g ∧ T g ≤ 10) (hB : ∀ g c : Nat, g < 4 → c < 4 → h (58 + g) c = B g c ∧ 0 ≤ B g c ∧ B g c ≤ 1000) (Rt : bg_R) (hR : Rt (some (.inl (tdF T B))) (bg_SH n, h)) : bg_Ca bg_MS (d + 1) 29 [vR 56, vR 74] (bg_SH n, h) Rt := by
  have rs : ∀ k j : Nat, k < 4 → j ≤ 4 → 0 ≤ sm j (fun g => T g * B g k) ∧ sm j (fun g => T g * B g k) ≤ 40000 := fun k j hk hj => by
    have := sm_rg (n := j) (f := fun g => T g * B g k) (B := 10000) (fun i hi => mul_rg (A := 10) (B := 1000) (hT i (by omega)).2 (hB i k (by omega) hk).2)
    omega
  have rm : ∀ k j : Nat, k < 4 → j ≤ 4 → 0 ≤ mxF j (B k) ∧ mxF j (B k) ≤ 1000 := fun k j hk hj => mxF_rg (by omega) j (fun c hc => (hB k c hk (by omega)).2.2)
  have rb : ∀ j : Nat, j ≤ 4 → 0 ≤ mxF j (fun c => sm 4 (fun g => T g * B g c)) ∧ mxF j (fun c => sm 4 (fun g => T g * B g c)) ≤ 40000 := fun j hj => mxF_rg (by omega) j (fun c hc => (rs c 4 (by omega) (by omega)).2)
  refine bg_ca (cd := cd_X1_worthOfBeingTold) rfl rfl ?_
  intro X hX
  have l1 : ∀ k, k ≤ 4 → ∀ j5 j6 j7 : Option bg_V, X (7, [oR 56, oR 74, oI (sm k (fun g => T g * mxF 4 (B g))), oI (mxF k (fun c => sm 4 (fun g => T g * B g c))), oI (k : Int), j5, j6, j7], [], (bg_SH n, h), (0, 0)) := by
    refine lp_up 4 _ ?_ (fun k hk ih => ?_)
    · intro j5 j6 j7
      iterate 2 (refine hX _ ?_; conv => whnf)
      refine hX _ ?_; conv => whnf
      refine ⟨fun q10 => ?_, fun q10 => ?_⟩
      · try simp (disch := omega) only [bg_w_id, Int.toNat_natCast, rw_land, sh_land, not_true_eq_false, kc0, kc1, kc2, kc3, kc4, kc5, kc6, kc7, kc8, kc9, kc10, kc11, kc12, kc13, kc14, kc15, kc16, kc17, kc18, kc19, kc20, kc21, kc22, kc23, kc24, kc25, kc26, kc27, kc28, kc29, kc30, kc31, kc32, kc33] at q10
        iterate 3 (refine hX _ ?_; conv => whnf)
        refine hX _ ?_; conv => whnf
        exact hR
      · exfalso
        (try simp (disch := omega) only [bg_w_id, Int.toNat_natCast, rw_land, sh_land, not_true_eq_false, kc0, kc1, kc2, kc3, kc4, kc5, kc6, kc7, kc8, kc9, kc10, kc11, kc12, kc13, kc14, kc15, kc16, kc17, kc18, kc19, kc20, kc21, kc22, kc23, kc24, kc25, kc26, kc27, kc28, kc29, kc30, kc31, kc32, kc33] at q10) <;> (omega)
    · intro j5 j6 j7
      have eT := (hT k hk).1
      have l2 : ∀ j, j ≤ 4 → X (29, [oR 56, oR 74, oI (sm k (fun g => T g * mxF 4 (B g))), oI (mxF k (fun c => sm 4 (fun g => T g * B g c))), oI (k : Int), oI (mxF j (B k)), oI (sm j (fun g => T g * B g k)), oI (j : Int)], [], (bg_SH n, h), (0, 0)) := by
        refine lp_up 4 _ ?_ (fun j hj ih2 => ?_)
        · have a1 := rb k (by omega)
          have a2 := rs k 4 hk (by omega)
          rw [sm_s, mxF_s k] at ih
          iterate 2 (refine hX _ ?_; conv => whnf)
          refine hX _ ?_; conv => whnf
          refine ⟨fun q32 => ?_, fun q32 => ?_⟩
          · try simp (disch := omega) only [bg_w_id, Int.toNat_natCast, rw_land, sh_land, not_true_eq_false, eT, kc0, kc1, kc2, kc3, kc4, kc5, kc6, kc7, kc8, kc9, kc10, kc11, kc12, kc13, kc14, kc15, kc16, kc17, kc18, kc19, kc20, kc21, kc22, kc23, kc24, kc25, kc26, kc27, kc28, kc29, kc30, kc31, kc32, kc33] at q32
            iterate 3 (refine hX _ ?_; conv => whnf)
            refine hX _ ?_; conv => whnf
            try (simp (disch := omega) only [bg_w_id, Int.toNat_natCast, rw_land, sh_land, not_true_eq_false, eT]; try conv => whnf)
            refine ⟨by first | omega | (simp (disch := omega) only [bg_w_id, Int.toNat_natCast, rw_land, sh_land, not_true_eq_false, eT]; omega), ?_⟩
            iterate 10 (refine hX _ ?_; conv => whnf)
            rw [bg_w_id (by omega) (by omega), bg_w_id (by omega) (by omega)]
            exact ih _ _ _
          · exfalso
            (try simp (disch := omega) only [bg_w_id, Int.toNat_natCast, rw_land, sh_land, not_true_eq_false, eT, kc0, kc1, kc2, kc3, kc4, kc5, kc6, kc7, kc8, kc9, kc10, kc11, kc12, kc13, kc14, kc15, kc16, kc17, kc18, kc19, kc20, kc21, kc22, kc23, kc24, kc25, kc26, kc27, kc28, kc29, kc30, kc31, kc32, kc33] at q32) <;> (omega)
        · have a1 := rm k j hk (by omega)
          have a2 := (hB k j hk hj)
          have a3 := (hB j k hj hk)
          have a4 := (hT j hj)
          have e1 := a2.1
          have e2 := a3.1
          have e3 := a4.1
          rw [sm_s, mxF_s] at ih2
          iterate 2 (refine hX _ ?_; conv => whnf)
          refine hX _ ?_; conv => whnf
          refine ⟨fun q32 => ?_, fun q32 => ?_⟩
          · exfalso
            (try simp (disch := omega) only [bg_w_id, Int.toNat_natCast, rw_land, sh_land, not_true_eq_false, rw_brg, sh_brg, e1, e2, e3, kc0, kc1, kc2, kc3, kc4, kc5, kc6, kc7, kc8, kc9, kc10, kc11, kc12, kc13, kc14, kc15, kc16, kc17, kc18, kc19, kc20, kc21, kc22, kc23, kc24, kc25, kc26, kc27, kc28, kc29, kc30, kc31, kc32, kc33] at q32) <;> (omega)
          · try simp (disch := omega) only [bg_w_id, Int.toNat_natCast, rw_land, sh_land, not_true_eq_false, rw_brg, sh_brg, e1, e2, e3, kc0, kc1, kc2, kc3, kc4, kc5, kc6, kc7, kc8, kc9, kc10, kc11, kc12, kc13, kc14, kc15, kc16, kc17, kc18, kc19, kc20, kc21, kc22, kc23, kc24, kc25, kc26, kc27, kc28, kc29, kc30, kc31, kc32, kc33] at q32
            iterate 2 (refine hX _ ?_; conv => whnf)
            refine hX _ ?_; conv => whnf
            try (simp (disch := omega) only [bg_w_id, Int.toNat_natCast, rw_land, sh_land, not_true_eq_false, rw_brg, sh_brg, e1, e2, e3]; try conv => whnf)
            refine hX _ ?_; conv => whnf
            refine ⟨fun q39 => ?_, fun q39 => ?_⟩
            · exfalso
              (try simp (disch := omega) only [bg_w_id, Int.toNat_natCast, rw_land, sh_land, not_true_eq_false, rw_brg, sh_brg, e1, e2, e3, kc0, kc1, kc2, kc3, kc4, kc5, kc6, kc7, kc8, kc9, kc10, kc11, kc12, kc13, kc14, kc15, kc16, kc17, kc18, kc19, kc20, kc21, kc22, kc23, kc24, kc25, kc26, kc27, kc28, kc29, kc30, kc31, kc32, kc33] at q39) <;> (omega)
            · try simp (disch := omega) only [bg_w_id, Int.toNat_natCast, rw_land, sh_land, not_true_eq_false, rw_brg, sh_brg, e1, e2, e3, kc0, kc1, kc2, kc3, kc4, kc5, kc6, kc7, kc8, kc9, kc10, kc11, kc12, kc13, kc14, kc15, kc16, kc17, kc18, kc19, kc20, kc21, kc22, kc23, kc24, kc25, kc26, kc27, kc28, kc29, kc30, kc31, kc32, kc33] at q39
              iterate 4 (refine hX _ ?_; conv => whnf)
              refine hX _ ?_; conv => whnf
              try (simp (disch := omega) only [bg_w_id, Int.toNat_natCast, rw_land, sh_land, not_true_eq_false, rw_brg, sh_brg, e1, e2, e3]; try conv => whnf)
              refine ⟨by first | omega | (simp (disch := omega) only [bg_w_id, Int.toNat_natCast, rw_land, sh_land, not_true_eq_false, rw_brg, sh_brg, e1, e2, e3]; omega), ?_⟩
              try (simp (disch := omega) only [bg_w_id, Int.toNat_natCast, rw_land, sh_land, not_true_eq_false, rw_brg, sh_brg, e1, e2, e3])
              try conv => whnf
              refine hX _ ?_; conv => whnf
              refine hX _ ?_; conv => whnf
              try (simp (disch := omega) only [bg_w_id, Int.toNat_natCast, rw_land, sh_land, not_true_eq_false, rw_brg, sh_brg, e1, e2, e3]; try conv => whnf)
              refine ⟨by first | omega | (simp (disch := omega) only [bg_w_id, Int.toNat_natCast, rw_land, sh_land, not_true_eq_false, rw_brg, sh_brg, e1, e2, e3]; omega), ?_⟩
              iterate 5 (refine hX _ ?_; conv => whnf)
              refine hX _ ?_; conv => whnf
              try (simp (disch := omega) only [bg_w_id, Int.toNat_natCast, rw_land, sh_land, not_true_eq_false, rw_brg, sh_brg, e1, e2, e3]; try conv => whnf)
              refine ⟨by first | omega | (simp (disch := omega) only [bg_w_id, Int.toNat_natCast, rw_land, sh_land, not_true_eq_false, rw_brg, sh_brg, e1, e2, e3]; omega), ?_⟩
              iterate 3 (refine hX _ ?_; conv => whnf)
              refine hX _ ?_; conv => whnf
              try (simp (disch := omega) only [bg_w_id, Int.toNat_natCast, rw_land, sh_land, not_true_eq_false, rw_brg, sh_brg, e1, e2, e3]; try conv => whnf)
              refine ⟨by first | omega | (simp (disch := omega) only [bg_w_id, Int.toNat_natCast, rw_land, sh_land, not_true_eq_false, rw_brg, sh_brg, e1, e2, e3]; omega), ?_⟩
              try (simp (disch := omega) only [bg_w_id, Int.toNat_natCast, rw_land, sh_land, not_true_eq_false, rw_brg, sh_brg, e1, e2, e3])
              try conv => whnf
              refine hX _ ?_; conv => whnf
              refine hX _ ?_; conv => whnf
              try (simp (disch := omega) only [bg_w_id, Int.toNat_natCast, rw_land, sh_land, not_true_eq_false, rw_brg, sh_brg, e1, e2, e3]; try conv => whnf)
              refine ⟨by first | omega | (simp (disch := omega) only [bg_w_id, Int.toNat_natCast, rw_land, sh_land, not_true_eq_false, rw_brg, sh_brg, e1, e2, e3]; omega), ?_⟩
              iterate 5 (refine hX _ ?_; conv => whnf)
              exact ih2
      iterate 2 (refine hX _ ?_; conv => whnf)
      refine hX _ ?_; conv => whnf
      refine ⟨fun q10 => ?_, fun q10 => ?_⟩
      · exfalso
        (try simp (disch := omega) only [bg_w_id, Int.toNat_natCast, rw_land, sh_land, not_true_eq_false, kc0, kc1, kc2, kc3, kc4, kc5, kc6, kc7, kc8, kc9, kc10, kc11, kc12, kc13, kc14, kc15, kc16, kc17, kc18, kc19, kc20, kc21, kc22, kc23, kc24, kc25, kc26, kc27, kc28, kc29, kc30, kc31, kc32, kc33] at q10) <;> (omega)
      · try simp (disch := omega) only [bg_w_id, Int.toNat_natCast, rw_land, sh_land, not_true_eq_false, kc0, kc1, kc2, kc3, kc4, kc5, kc6, kc7, kc8, kc9, kc10, kc11, kc12, kc13, kc14, kc15, kc16, kc17, kc18, kc19, kc20, kc21, kc22, kc23, kc24, kc25, kc26, kc27, kc28, kc29, kc30, kc31, kc32, kc33] at q10
        iterate 3 (refine hX _ ?_; conv => whnf)
        refine hX _ ?_; conv => whnf
        refine ⟨fun q17 => ?_, fun q17 => ?_⟩
        · exfalso
          (try simp (disch := omega) only [bg_w_id, Int.toNat_natCast, rw_land, sh_land, not_true_eq_false, kc0, kc1, kc2, kc3, kc4, kc5, kc6, kc7, kc8, kc9, kc10, kc11, kc12, kc13, kc14, kc15, kc16, kc17, kc18, kc19, kc20, kc21, kc22, kc23, kc24, kc25, kc26, kc27, kc28, kc29, kc30, kc31, kc32, kc33] at q17) <;> (omega)
        · try simp (disch := omega) only [bg_w_id, Int.toNat_natCast, rw_land, sh_land, not_true_eq_false, kc0, kc1, kc2, kc3, kc4, kc5, kc6, kc7, kc8, kc9, kc10, kc11, kc12, kc13, kc14, kc15, kc16, kc17, kc18, kc19, kc20, kc21, kc22, kc23, kc24, kc25, kc26, kc27, kc28, kc29, kc30, kc31, kc32, kc33] at q17
          iterate 6 (refine hX _ ?_; conv => whnf)
          exact l2 0 (by omega)
  iterate 6 (refine hX _ ?_; conv => whnf)
  exact l1 0 (by omega) _ _ _
theorem s_ctold (d n : Nat) (h : bg_G) (hI : INV h) (Rt : bg_R) (hR1 : tSet (fun k => h 123 k) ≠ 0 → (∀ g : Nat, g < 4 → h 125 g = 0 ∨ 0 ≤ h 122 g) → sm 4 (fun g => h 125 g) = 10 → ∀ h' : bg_G, GME h h' → Rt (some (.inl (tdF (fun g => h 125 g) (bgM h)))) (bg_SH n, h')) (hR0 : ¬ (tSet (fun k => h 123 k) ≠ 0 ∧ (∀ g : Nat, g < 4 → h 125 g = 0 ∨ 0 ≤ h 122 g) ∧ sm 4 (fun g => h 125 g) = 10) → Rt (some (.inl (-2))) (bg_SH n, h)) : bg_Ca bg_MS (d + 5) 103 [vR 2] (bg_SH n, h) Rt := by
  have r := inv_REL hI
  have lo := lot_rg hI
  have wl : (wsM h).length ≤ 400 := (inv_tbl hI).2.1
  have tw := hI.2.2.2.2.1.2
  have lm := (inv_lot hI).1
  have et : tSet (fun k => h 55 k) = tSet (fun k => h 123 k) := by
    unfold tSet
    have key : ∀ m, m ≤ 4 → stN m (fun k => decide (0 ≤ h 55 k)) = stN m (fun k => decide (0 ≤ h 123 k)) := by
      intro m
      induction m with
      | zero => intro _; rfl
      | succ m ih => intro hm; rw [stN_s, stN_s, ih (by omega), (lo m (by omega)).2.2.1.2]
    exact key 4 (by omega)
  have t16 := tSet_lt (fun k => h 123 k)
  refine bg_ca (cd := cd_X8_told) rfl rfl ?_
  intro X hX
  by_cases c1 : tSet (fun k => h 123 k) = 0
  · iterate 2 (refine hX _ ?_; conv => whnf)
    refine hX _ ?_; conv => whnf
    try simp (disch := omega) only [bg_w_id, Int.toNat_natCast, rw_land, sh_land, not_true_eq_false]
    refine s_toldK (d + 2) n h (fun k hk => by have := (lo k hk).2.1; omega) _ ?_
    rw [et, c1]
    conv => whnf
    refine hX _ ?_; conv => whnf
    refine ⟨fun q7 => ?_, fun q7 => ?_⟩
    · exfalso
      (try simp (disch := omega) only [bg_w_id, Int.toNat_natCast, rw_land, sh_land, not_true_eq_false, kc0, kc1, kc2, kc3, kc4, kc5, kc6, kc7, kc8, kc9, kc10, kc11, kc12, kc13, kc14, kc15, kc16, kc17, kc18, kc19, kc20, kc21, kc22, kc23, kc24, kc25, kc26, kc27, kc28, kc29, kc30, kc31, kc32, kc33] at q7) <;> (omega)
    · try simp (disch := omega) only [bg_w_id, Int.toNat_natCast, rw_land, sh_land, not_true_eq_false, kc0, kc1, kc2, kc3, kc4, kc5, kc6, kc7, kc8, kc9, kc10, kc11, kc12, kc13, kc14, kc15, kc16, kc17, kc18, kc19, kc20, kc21, kc22, kc23, kc24, kc25, kc26, kc27, kc28, kc29, kc30, kc31, kc32, kc33] at q7
      refine hX _ ?_; conv => whnf
      refine hX _ ?_; conv => whnf
      exact hR0 (fun x => x.1 c1)
  · have rt : ∀ m : Nat, m ≤ 4 → 0 ≤ sm m (fun g => h 125 g) ∧ sm m (fun g => h 125 g) ≤ 40 := fun m hm => by
      have := sm_rg (n := m) (f := fun g => h 125 g) (B := 10) (fun i hi => (tw i (by omega)).2)
      omega
    have l1 : ∀ g, g ≤ 4 → (∀ g' : Nat, g' < g → h 125 g' = 0 ∨ 0 ≤ h 122 g') → X (17, [oR 2, oI (sm g (fun g => h 125 g)), oI (g : Int)], [], (bg_SH n, h), (0, 0)) := by
      refine lp_up 4 _ ?_ (fun g hg ih => ?_)
      · intro hall
        have rt4 := rt 4 (by omega)
        by_cases c2 : sm 4 (fun g => h 125 g) = 10
        · have hR1 := hR1 c1 hall c2
          iterate 2 (refine hX _ ?_; conv => whnf)
          refine hX _ ?_; conv => whnf
          refine ⟨fun q19 => ?_, fun q19 => ?_⟩
          · try simp (disch := omega) only [bg_w_id, Int.toNat_natCast, rw_land, sh_land, not_true_eq_false, kc0, kc1, kc2, kc3, kc4, kc5, kc6, kc7, kc8, kc9, kc10, kc11, kc12, kc13, kc14, kc15, kc16, kc17, kc18, kc19, kc20, kc21, kc22, kc23, kc24, kc25, kc26, kc27, kc28, kc29, kc30, kc31, kc32, kc33] at q19
            iterate 2 (refine hX _ ?_; conv => whnf)
            refine hX _ ?_; conv => whnf
            refine ⟨fun q65 => ?_, fun q65 => ?_⟩
            · try simp (disch := omega) only [bg_w_id, Int.toNat_natCast, rw_land, sh_land, not_true_eq_false, kc0, kc1, kc2, kc3, kc4, kc5, kc6, kc7, kc8, kc9, kc10, kc11, kc12, kc13, kc14, kc15, kc16, kc17, kc18, kc19, kc20, kc21, kc22, kc23, kc24, kc25, kc26, kc27, kc28, kc29, kc30, kc31, kc32, kc33] at q65
              refine hX _ ?_; conv => whnf
              refine hX _ ?_; conv => whnf
              try simp (disch := omega) only [bg_w_id, Int.toNat_natCast, rw_land, sh_land, not_true_eq_false]
              refine s_setUp d n h hI _ (fun h' gm => ?_)
              conv => whnf
              iterate 4 (refine hX _ ?_; conv => whnf)
              refine hX _ ?_; conv => whnf
              try simp (disch := omega) only [bg_w_id, Int.toNat_natCast, rw_land, sh_land, not_true_eq_false]
              refine s_worth (d + 3) n (fun g => h 125 g) (bgM h) h' (fun g hg => by rw [gm.1 74 (by omega)]; exact tw g hg) (fun g c hg hc => ⟨gm.2 g c hg hc, bgM_rg r.2.1 lm hc⟩) _ ?_
              conv => whnf
              refine hX _ ?_; conv => whnf
              exact hR1 h' gm
            · exfalso
              (try simp (disch := omega) only [bg_w_id, Int.toNat_natCast, rw_land, sh_land, not_true_eq_false, kc0, kc1, kc2, kc3, kc4, kc5, kc6, kc7, kc8, kc9, kc10, kc11, kc12, kc13, kc14, kc15, kc16, kc17, kc18, kc19, kc20, kc21, kc22, kc23, kc24, kc25, kc26, kc27, kc28, kc29, kc30, kc31, kc32, kc33] at q65) <;> (omega)
          · exfalso
            (try simp (disch := omega) only [bg_w_id, Int.toNat_natCast, rw_land, sh_land, not_true_eq_false, kc0, kc1, kc2, kc3, kc4, kc5, kc6, kc7, kc8, kc9, kc10, kc11, kc12, kc13, kc14, kc15, kc16, kc17, kc18, kc19, kc20, kc21, kc22, kc23, kc24, kc25, kc26, kc27, kc28, kc29, kc30, kc31, kc32, kc33] at q19) <;> (omega)
        · iterate 2 (refine hX _ ?_; conv => whnf)
          refine hX _ ?_; conv => whnf
          refine ⟨fun q19 => ?_, fun q19 => ?_⟩
          · try simp (disch := omega) only [bg_w_id, Int.toNat_natCast, rw_land, sh_land, not_true_eq_false, kc0, kc1, kc2, kc3, kc4, kc5, kc6, kc7, kc8, kc9, kc10, kc11, kc12, kc13, kc14, kc15, kc16, kc17, kc18, kc19, kc20, kc21, kc22, kc23, kc24, kc25, kc26, kc27, kc28, kc29, kc30, kc31, kc32, kc33] at q19
            iterate 2 (refine hX _ ?_; conv => whnf)
            refine hX _ ?_; conv => whnf
            refine ⟨fun q65 => ?_, fun q65 => ?_⟩
            · exfalso
              (try simp (disch := omega) only [bg_w_id, Int.toNat_natCast, rw_land, sh_land, not_true_eq_false, kc0, kc1, kc2, kc3, kc4, kc5, kc6, kc7, kc8, kc9, kc10, kc11, kc12, kc13, kc14, kc15, kc16, kc17, kc18, kc19, kc20, kc21, kc22, kc23, kc24, kc25, kc26, kc27, kc28, kc29, kc30, kc31, kc32, kc33] at q65) <;> (omega)
            · try simp (disch := omega) only [bg_w_id, Int.toNat_natCast, rw_land, sh_land, not_true_eq_false, kc0, kc1, kc2, kc3, kc4, kc5, kc6, kc7, kc8, kc9, kc10, kc11, kc12, kc13, kc14, kc15, kc16, kc17, kc18, kc19, kc20, kc21, kc22, kc23, kc24, kc25, kc26, kc27, kc28, kc29, kc30, kc31, kc32, kc33] at q65
              refine hX _ ?_; conv => whnf
              refine hX _ ?_; conv => whnf
              exact hR0 (fun x => c2 x.2.2)
          · exfalso
            (try simp (disch := omega) only [bg_w_id, Int.toNat_natCast, rw_land, sh_land, not_true_eq_false, kc0, kc1, kc2, kc3, kc4, kc5, kc6, kc7, kc8, kc9, kc10, kc11, kc12, kc13, kc14, kc15, kc16, kc17, kc18, kc19, kc20, kc21, kc22, kc23, kc24, kc25, kc26, kc27, kc28, kc29, kc30, kc31, kc32, kc33] at q19) <;> (omega)
      · intro hall
        have e73 := (tw g hg).1
        have r73 := (tw g hg).2
        have lg := lo g hg
        have e53 := lg.2.2.1.1
        have rg := rt g (by omega)
        by_cases c2 : h 125 g = 0 ∨ 0 ≤ h 122 g
        · have ih := ih (fun g' hg' => by
            by_cases e : g' = g
            · subst e; exact c2
            · exact hall g' (by omega))
          rw [sm_s] at ih
          iterate 2 (refine hX _ ?_; conv => whnf)
          refine hX _ ?_; conv => whnf
          refine ⟨fun q19 => ?_, fun q19 => ?_⟩
          · exfalso
            (try simp (disch := omega) only [bg_w_id, Int.toNat_natCast, rw_land, sh_land, not_true_eq_false, e73, e53, kc0, kc1, kc2, kc3, kc4, kc5, kc6, kc7, kc8, kc9, kc10, kc11, kc12, kc13, kc14, kc15, kc16, kc17, kc18, kc19, kc20, kc21, kc22, kc23, kc24, kc25, kc26, kc27, kc28, kc29, kc30, kc31, kc32, kc33] at q19) <;> (omega)
          · try simp (disch := omega) only [bg_w_id, Int.toNat_natCast, rw_land, sh_land, not_true_eq_false, e73, e53, kc0, kc1, kc2, kc3, kc4, kc5, kc6, kc7, kc8, kc9, kc10, kc11, kc12, kc13, kc14, kc15, kc16, kc17, kc18, kc19, kc20, kc21, kc22, kc23, kc24, kc25, kc26, kc27, kc28, kc29, kc30, kc31, kc32, kc33] at q19
            iterate 3 (refine hX _ ?_; conv => whnf)
            refine hX _ ?_; conv => whnf
            try (simp (disch := omega) only [bg_w_id, Int.toNat_natCast, rw_land, sh_land, not_true_eq_false, e73, e53]; try conv => whnf)
            refine ⟨by first | omega | (simp (disch := omega) only [bg_w_id, Int.toNat_natCast, rw_land, sh_land, not_true_eq_false, e73, e53]; omega), ?_⟩
            refine hX _ ?_; conv => whnf
            refine ⟨fun q28 => ?_, fun q28 => ?_⟩
            · try simp (disch := omega) only [bg_w_id, Int.toNat_natCast, rw_land, sh_land, not_true_eq_false, e73, e53, kc0, kc1, kc2, kc3, kc4, kc5, kc6, kc7, kc8, kc9, kc10, kc11, kc12, kc13, kc14, kc15, kc16, kc17, kc18, kc19, kc20, kc21, kc22, kc23, kc24, kc25, kc26, kc27, kc28, kc29, kc30, kc31, kc32, kc33] at q28
              iterate 4 (refine hX _ ?_; conv => whnf)
              refine hX _ ?_; conv => whnf
              try (simp (disch := omega) only [bg_w_id, Int.toNat_natCast, rw_land, sh_land, not_true_eq_false, e73, e53]; try conv => whnf)
              refine ⟨by first | omega | (simp (disch := omega) only [bg_w_id, Int.toNat_natCast, rw_land, sh_land, not_true_eq_false, e73, e53]; omega), ?_⟩
              iterate 4 (refine hX _ ?_; conv => whnf)
              exact ih
            · try simp (disch := omega) only [bg_w_id, Int.toNat_natCast, rw_land, sh_land, not_true_eq_false, e73, e53, kc0, kc1, kc2, kc3, kc4, kc5, kc6, kc7, kc8, kc9, kc10, kc11, kc12, kc13, kc14, kc15, kc16, kc17, kc18, kc19, kc20, kc21, kc22, kc23, kc24, kc25, kc26, kc27, kc28, kc29, kc30, kc31, kc32, kc33] at q28
              iterate 4 (refine hX _ ?_; conv => whnf)
              refine hX _ ?_; conv => whnf
              try (simp (disch := omega) only [bg_w_id, Int.toNat_natCast, rw_land, sh_land, not_true_eq_false, e73, e53]; try conv => whnf)
              refine ⟨by first | omega | (simp (disch := omega) only [bg_w_id, Int.toNat_natCast, rw_land, sh_land, not_true_eq_false, e73, e53]; omega), ?_⟩
              refine hX _ ?_; conv => whnf
              refine hX _ ?_; conv => whnf
              refine ⟨fun q41 => ?_, fun q41 => ?_⟩
              · try simp (disch := omega) only [bg_w_id, Int.toNat_natCast, rw_land, sh_land, not_true_eq_false, e73, e53, kc0, kc1, kc2, kc3, kc4, kc5, kc6, kc7, kc8, kc9, kc10, kc11, kc12, kc13, kc14, kc15, kc16, kc17, kc18, kc19, kc20, kc21, kc22, kc23, kc24, kc25, kc26, kc27, kc28, kc29, kc30, kc31, kc32, kc33] at q41
                iterate 4 (refine hX _ ?_; conv => whnf)
                refine hX _ ?_; conv => whnf
                try (simp (disch := omega) only [bg_w_id, Int.toNat_natCast, rw_land, sh_land, not_true_eq_false, e73, e53]; try conv => whnf)
                refine ⟨by first | omega | (simp (disch := omega) only [bg_w_id, Int.toNat_natCast, rw_land, sh_land, not_true_eq_false, e73, e53]; omega), ?_⟩
                iterate 4 (refine hX _ ?_; conv => whnf)
                exact ih
              · try simp (disch := omega) only [bg_w_id, Int.toNat_natCast, rw_land, sh_land, not_true_eq_false, e73, e53, kc0, kc1, kc2, kc3, kc4, kc5, kc6, kc7, kc8, kc9, kc10, kc11, kc12, kc13, kc14, kc15, kc16, kc17, kc18, kc19, kc20, kc21, kc22, kc23, kc24, kc25, kc26, kc27, kc28, kc29, kc30, kc31, kc32, kc33] at q41
                refine hX _ ?_; conv => whnf
                refine hX _ ?_; conv => whnf
                exfalso; omega
        · iterate 2 (refine hX _ ?_; conv => whnf)
          refine hX _ ?_; conv => whnf
          refine ⟨fun q19 => ?_, fun q19 => ?_⟩
          · exfalso
            (try simp (disch := omega) only [bg_w_id, Int.toNat_natCast, rw_land, sh_land, not_true_eq_false, e73, e53, kc0, kc1, kc2, kc3, kc4, kc5, kc6, kc7, kc8, kc9, kc10, kc11, kc12, kc13, kc14, kc15, kc16, kc17, kc18, kc19, kc20, kc21, kc22, kc23, kc24, kc25, kc26, kc27, kc28, kc29, kc30, kc31, kc32, kc33] at q19) <;> (omega)
          · try simp (disch := omega) only [bg_w_id, Int.toNat_natCast, rw_land, sh_land, not_true_eq_false, e73, e53, kc0, kc1, kc2, kc3, kc4, kc5, kc6, kc7, kc8, kc9, kc10, kc11, kc12, kc13, kc14, kc15, kc16, kc17, kc18, kc19, kc20, kc21, kc22, kc23, kc24, kc25, kc26, kc27, kc28, kc29, kc30, kc31, kc32, kc33] at q19
            iterate 3 (refine hX _ ?_; conv => whnf)
            refine hX _ ?_; conv => whnf
            try (simp (disch := omega) only [bg_w_id, Int.toNat_natCast, rw_land, sh_land, not_true_eq_false, e73, e53]; try conv => whnf)
            refine ⟨by first | omega | (simp (disch := omega) only [bg_w_id, Int.toNat_natCast, rw_land, sh_land, not_true_eq_false, e73, e53]; omega), ?_⟩
            refine hX _ ?_; conv => whnf
            refine ⟨fun q28 => ?_, fun q28 => ?_⟩
            · exfalso
              (try simp (disch := omega) only [bg_w_id, Int.toNat_natCast, rw_land, sh_land, not_true_eq_false, e73, e53, kc0, kc1, kc2, kc3, kc4, kc5, kc6, kc7, kc8, kc9, kc10, kc11, kc12, kc13, kc14, kc15, kc16, kc17, kc18, kc19, kc20, kc21, kc22, kc23, kc24, kc25, kc26, kc27, kc28, kc29, kc30, kc31, kc32, kc33] at q28) <;> (omega)
            · try simp (disch := omega) only [bg_w_id, Int.toNat_natCast, rw_land, sh_land, not_true_eq_false, e73, e53, kc0, kc1, kc2, kc3, kc4, kc5, kc6, kc7, kc8, kc9, kc10, kc11, kc12, kc13, kc14, kc15, kc16, kc17, kc18, kc19, kc20, kc21, kc22, kc23, kc24, kc25, kc26, kc27, kc28, kc29, kc30, kc31, kc32, kc33] at q28
              iterate 4 (refine hX _ ?_; conv => whnf)
              refine hX _ ?_; conv => whnf
              try (simp (disch := omega) only [bg_w_id, Int.toNat_natCast, rw_land, sh_land, not_true_eq_false, e73, e53]; try conv => whnf)
              refine ⟨by first | omega | (simp (disch := omega) only [bg_w_id, Int.toNat_natCast, rw_land, sh_land, not_true_eq_false, e73, e53]; omega), ?_⟩
              refine hX _ ?_; conv => whnf
              refine hX _ ?_; conv => whnf
              refine ⟨fun q41 => ?_, fun q41 => ?_⟩
              · exfalso
                (try simp (disch := omega) only [bg_w_id, Int.toNat_natCast, rw_land, sh_land, not_true_eq_false, e73, e53, kc0, kc1, kc2, kc3, kc4, kc5, kc6, kc7, kc8, kc9, kc10, kc11, kc12, kc13, kc14, kc15, kc16, kc17, kc18, kc19, kc20, kc21, kc22, kc23, kc24, kc25, kc26, kc27, kc28, kc29, kc30, kc31, kc32, kc33] at q41) <;> (omega)
              · try simp (disch := omega) only [bg_w_id, Int.toNat_natCast, rw_land, sh_land, not_true_eq_false, e73, e53, kc0, kc1, kc2, kc3, kc4, kc5, kc6, kc7, kc8, kc9, kc10, kc11, kc12, kc13, kc14, kc15, kc16, kc17, kc18, kc19, kc20, kc21, kc22, kc23, kc24, kc25, kc26, kc27, kc28, kc29, kc30, kc31, kc32, kc33] at q41
                refine hX _ ?_; conv => whnf
                refine hX _ ?_; conv => whnf
                exact hR0 (fun x => c2 (x.2.1 g hg))
    iterate 2 (refine hX _ ?_; conv => whnf)
    refine hX _ ?_; conv => whnf
    try simp (disch := omega) only [bg_w_id, Int.toNat_natCast, rw_land, sh_land, not_true_eq_false]
    refine s_toldK (d + 2) n h (fun k hk => by have := (lo k hk).2.1; omega) _ ?_
    rw [et]
    conv => whnf
    refine hX _ ?_; conv => whnf
    refine ⟨fun q7 => ?_, fun q7 => ?_⟩
    · try simp (disch := omega) only [bg_w_id, Int.toNat_natCast, rw_land, sh_land, not_true_eq_false, kc0, kc1, kc2, kc3, kc4, kc5, kc6, kc7, kc8, kc9, kc10, kc11, kc12, kc13, kc14, kc15, kc16, kc17, kc18, kc19, kc20, kc21, kc22, kc23, kc24, kc25, kc26, kc27, kc28, kc29, kc30, kc31, kc32, kc33] at q7
      iterate 4 (refine hX _ ?_; conv => whnf)
      exact l1 0 (by omega) (fun g' hg' => absurd hg' (by omega))
    · exfalso
      (try simp (disch := omega) only [bg_w_id, Int.toNat_natCast, rw_land, sh_land, not_true_eq_false, kc0, kc1, kc2, kc3, kc4, kc5, kc6, kc7, kc8, kc9, kc10, kc11, kc12, kc13, kc14, kc15, kc16, kc17, kc18, kc19, kc20, kc21, kc22, kc23, kc24, kc25, kc26, kc27, kc28, kc29, kc30, kc31, kc32, kc33] at q7) <;> (omega)
/-- the game's cells are changed alone -/
theorem INV_G {h h' : bg_G} (hI : INV h) (e : ∀ k, ¬ (56 ≤ k ∧ k ≤ 72) → h' k = h k) : INV h' := INV_s1 hI ⟨fun k hk => by unfold scr at hk; exact e k (by omega), fun j hj => by rw [e 3 (by omega)], fun j _ _ _ _ _ _ _ => by rw [e 115 (by omega)], b012_fr (fun k a b => e k (by omega))⟩ (rgB_fr hI.2.2.1.2.2.2 (e _ (by omega)) (e _ (by omega))) (fun k a b => e k (by omega)) (by rw [e 115 (by omega)]) (by rw [e 115 (by omega)]) (by rw [e 115 (by omega)]) (e _ (by omega)) (e _ (by omega)) (e _ (by omega))
theorem ag_bg {h h' : bg_G} (e : ∀ k, 117 ≤ k → h' k = h k) (ho : okM h) (lm : lotM h) : ∀ g c : Nat, g < 4 → c < 4 → bgM h' g c = bgM h g c := fun g c hg hc => by
  have a : ag0 h h' := ag0_fr (e _ (by omega)) (e _ (by omega)) (e _ (by omega)) (e _ (by omega)) (e _ (by omega))
  have hn := ho.1.1
  unfold bgM gmM
  rw [e 122 (by omega), e 123 (by omega)]
  by_cases x : 0 ≤ h 122 g ∧ 0 ≤ h 123 c
  · rw [if_pos x, if_pos x, ag_held a]
    unfold thrM
    have lc := (lm c hc).2
    have hp := wsM_pt ho (w := (h 123 c).toNat) (by omega)
    rw [ag_ws a hn.2]
    unfold thr
    exact fo_congr _ (fun i y hi => by
      have := hp.2 i hi
      show (if bearM h' _ _ 0 < y then bearM h' _ _ 0 else y) = _
      rw [ag_bear a _ _ (by omega)])
  · rw [if_neg x, if_neg x]
theorem op_told (n : Nat) (h : bg_G) (hI : INV h) : OPI n 5 103 [vR 2] 5 181 [vR 115] h := by
  intro d Rt k
  have r := inv_REL hI
  have tw := hI.2.2.2.2.1.2
  refine s_ctold d n h hI Rt (fun c1 c2 c3 h1 gm => k _ _ (fun d2 R2 q => ?_)) (fun c => k _ _ (fun d2 R2 q => ?_))
  · have hI1 := INV_G hI (h' := h1) (fun k hk => gm.1 k (by omega))
    have e : ∀ k, 117 ≤ k → h1 k = h k := fun k hk => gm.1 k (by omega)
    refine s_mtold d2 n h1 (inv_REL hI1).2.1 (inv_way hI1) (inv_lot hI1).1 (fun g hg => (hI1.2.2.2.2.1.2 g hg).2) R2 (fun _ _ _ h2 f => ?_) (fun c => absurd ⟨by rw [e 123 (by omega)]; exact c1, by rw [e 125 (by omega), e 122 (by omega)]; exact c2, by rw [e 125 (by omega)]; exact c3⟩ c)
    have q := q h2 (INV_W hI1 f)
    have et : tdF (fun g => h1 125 g) (bgM h1) = tdF (fun g => h 125 g) (bgM h) := by
      have eb := ag_bg e r.2.1 (inv_lot hI).1
      unfold tdF
      rw [e 125 (by omega)]
      have e1 : sm 4 (fun g => h 125 g * mxF 4 (bgM h1 g)) = sm 4 (fun g => h 125 g * mxF 4 (bgM h g)) := sm_congr (fun g hg => by
        show _ * mxF 4 (bgM h1 g) = _
        unfold mxF
        rw [fo_congr 4 (fun c x hc => by show (if x < bgM h1 g c then bgM h1 g c else x) = (if x < bgM h g c then bgM h g c else x); rw [eb g c hg hc])])
      have e2 : mxF 4 (fun c => sm 4 (fun g => h 125 g * bgM h1 g c)) = mxF 4 (fun c => sm 4 (fun g => h 125 g * bgM h g c)) := by
        unfold mxF
        refine fo_congr 4 (fun c x hc => ?_)
        have e3 : sm 4 (fun g => h 125 g * bgM h1 g c) = sm 4 (fun g => h 125 g * bgM h g c) := sm_congr (fun g hg => by show _ * bgM h1 g c = _; rw [eb g c hg hc])
        show (if x < sm 4 (fun g => h 125 g * bgM h1 g c) then sm 4 (fun g => h 125 g * bgM h1 g c) else x) = _
        rw [e3]
      rw [e1, e2]
    rw [et]
    exact q
  · exact s_mtold d2 n h r.2.1 (inv_way hI) (inv_lot hI).1 (fun g hg => (tw g hg).2) R2 (fun x y z => absurd ⟨x, y, z⟩ c) (fun _ => q h hI)
