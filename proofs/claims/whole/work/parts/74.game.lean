theorem mul_ab {x y X Y : Int} (hx : 0 ≤ x ∧ x ≤ X) (hy : -Y ≤ y ∧ y ≤ Y) : -(X * Y) ≤ x * y ∧ x * y ≤ X * Y := by
  have h0 : 0 ≤ Y := by omega
  have h1 : x * y ≤ x * Y := Int.mul_le_mul_of_nonneg_left hy.2 hx.1
  have h2 : x * Y ≤ X * Y := Int.mul_le_mul_of_nonneg_right hx.2 h0
  have h3 : x * (-Y) ≤ x * y := Int.mul_le_mul_of_nonneg_left hy.1 hx.1
  rw [Int.mul_neg] at h3
  omega
theorem mnr_rg {k : Nat} {R : Nat → Nat → Int} (h : ∀ l q, 0 ≤ R l q ∧ R l q ≤ 1000) : -6000000000 ≤ mnr k R ∧ mnr k R ≤ 6000000000 := by
  have p2 : ∀ a b c d : Nat, 0 ≤ R a b * R c d ∧ R a b * R c d ≤ 1000000 := fun a b c d => mul_rg (A := 1000) (B := 1000) (h a b) (h c d)
  unfold mnr
  split
  · omega
  · have := h 0 0; omega
  · have := p2 0 0 1 1
    have := p2 0 1 1 0
    omega
  · have a1 := p2 1 1 2 2
    have a2 := p2 1 2 2 1
    have a3 := p2 1 0 2 2
    have a4 := p2 1 2 2 0
    have a5 := p2 1 0 2 1
    have a6 := p2 1 1 2 0
    have b1 := mul_ab (x := R 0 0) (y := R 1 1 * R 2 2 - R 1 2 * R 2 1) (Y := 1000000) (h 0 0) (by omega)
    have b2 := mul_ab (x := R 0 1) (y := R 1 0 * R 2 2 - R 1 2 * R 2 0) (Y := 1000000) (h 0 1) (by omega)
    have b3 := mul_ab (x := R 0 2) (y := R 1 0 * R 2 1 - R 1 1 * R 2 0) (Y := 1000000) (h 0 2) (by omega)
    omega
/-- numbers of the game in range -/
def BG (B : Nat → Nat → Int) : Prop := ∀ g c, 0 ≤ B g c ∧ B g c ≤ 1000
theorem cof_rg {k : Nat} {B : Nat → Nat → Int} (hB : BG B) (a b i j : Nat) : -6000000000 ≤ cof k (SQ B a b) i j ∧ cof k (SQ B a b) i j ≤ 6000000000 := by
  have := mnr_rg (k := k - 1) (R := fun l q => SQ B a b (skp i l) (skp j q)) (fun l q => hB _ _)
  unfold cof
  split <;> omega
def mmF (B : Nat → Nat → Int) (a b g c : Nat) : Int := if a.testBit g = true ∧ b.testBit c = true then cof (pc 15 a) (SQ B a b) (ah a g) (ah b c) else 0
def GP (B : Nat → Nat → Int) (a b g : Nat) : Int := sm 4 (fun c => mmF B a b g c)
def CP (B : Nat → Nat → Int) (a b c : Nat) : Int := sm 4 (fun g => mmF B a b g c)
def WW (B : Nat → Nat → Int) (a b : Nat) : Int := sm 4 (fun g => GP B a b g)
def sgW (B : Nat → Nat → Int) (a b : Nat) : Int := if WW B a b < 0 then -1 else 1
theorem mm_rg {B : Nat → Nat → Int} (hB : BG B) (a b g c : Nat) : -6000000000 ≤ mmF B a b g c ∧ mmF B a b g c ≤ 6000000000 := by
  unfold mmF
  split
  · exact cof_rg hB _ _ _ _
  · omega
theorem sm_abs {n : Nat} {f : Nat → Int} {Y : Int} (hY : 0 ≤ Y) (hn : n ≤ 4) (h : ∀ i, i < n → -Y ≤ f i ∧ f i ≤ Y) : -(4 * Y) ≤ sm n f ∧ sm n f ≤ 4 * Y := by
  have := sm_ab h
  have e : (n : Int) * Y ≤ 4 * Y := Int.mul_le_mul_of_nonneg_right (by omega) hY
  omega
theorem GP_rg {B : Nat → Nat → Int} (hB : BG B) (a b g n : Nat) (hn : n ≤ 4) : -24000000000 ≤ sm n (fun c => mmF B a b g c) ∧ sm n (fun c => mmF B a b g c) ≤ 24000000000 := sm_abs (Y := 6000000000) (by omega) hn (fun i _ => mm_rg hB a b g i)
theorem CP_rg {B : Nat → Nat → Int} (hB : BG B) (a b c n : Nat) (hn : n ≤ 4) : -24000000000 ≤ sm n (fun g => mmF B a b g c) ∧ sm n (fun g => mmF B a b g c) ≤ 24000000000 := sm_abs (Y := 6000000000) (by omega) hn (fun i _ => mm_rg hB a b i c)
theorem WW_rg {B : Nat → Nat → Int} (hB : BG B) (a b n : Nat) (hn : n ≤ 4) : -96000000000 ≤ sm n (fun g => GP B a b g) ∧ sm n (fun g => GP B a b g) ≤ 96000000000 := sm_abs (Y := 24000000000) (by omega) hn (fun i _ => GP_rg hB a b i 4 (by omega))
theorem s_turnSigns (d n : Nat) (h : bg_G) (Rt : bg_R) (hR : ∀ h' : bg_G, (∀ k, k ≠ 56 → k ≠ 62 → k ≠ 63 → h' k = h k) → (∀ j, j ≠ 4 → h' 56 j = h 56 j) → h' 56 4 = - h 56 4 → (∀ k : Nat, k < 4 → h' 62 k = - h 62 k ∧ h' 63 k = - h 63 k) → Rt none (bg_SH n, h')) : bg_Ca bg_MS (d + 1) 20 [vR 56] (bg_SH n, h) Rt := by
  refine bg_ca (cd := cd_X1_turnSigns) rfl rfl ?_
  intro X hX
  have l1 : ∀ i, i ≤ 4 → ∀ h' : bg_G, (∀ k, k ≠ 56 → k ≠ 62 → k ≠ 63 → h' k = h k) → (∀ j, j ≠ 4 → h' 56 j = h 56 j) → h' 56 4 = - h 56 4 → (∀ k : Nat, k < 4 → h' 62 k = (if k < i then - h 62 k else h 62 k) ∧ h' 63 k = (if k < i then - h 63 k else h 63 k)) → X (11, [oR 56, oI (i : Int)], [], (bg_SH n, h'), (0, 0)) := by
    refine lp_up 4 _ ?_ (fun i hi ih => ?_)
    · intro h' f1 f2 f3 f4
      iterate 2 (refine hX _ ?_; conv => whnf)
      refine hX _ ?_; conv => whnf
      refine ⟨fun q13 => ?_, fun q13 => ?_⟩
      · try simp (disch := omega) only [bg_w_id, Int.toNat_natCast, rw_land, sh_land, not_true_eq_false, kc0, kc1, kc2, kc3, kc4, kc5, kc6, kc7, kc8, kc9, kc10, kc11, kc12, kc13, kc14, kc15, kc16, kc17, kc18, kc19, kc20, kc21, kc22, kc23, kc24, kc25, kc26, kc27, kc28, kc29, kc30, kc31, kc32, kc33] at q13
        refine hX _ ?_; conv => whnf
        refine hR h' f1 f2 f3 (fun k hk => ?_)
        have := f4 k hk
        rw [if_pos hk, if_pos hk] at this
        exact this
      · exfalso
        (try simp (disch := omega) only [bg_w_id, Int.toNat_natCast, rw_land, sh_land, not_true_eq_false, kc0, kc1, kc2, kc3, kc4, kc5, kc6, kc7, kc8, kc9, kc10, kc11, kc12, kc13, kc14, kc15, kc16, kc17, kc18, kc19, kc20, kc21, kc22, kc23, kc24, kc25, kc26, kc27, kc28, kc29, kc30, kc31, kc32, kc33] at q13) <;> (omega)
    · intro h' f1 f2 f3 f4
      iterate 2 (refine hX _ ?_; conv => whnf)
      refine hX _ ?_; conv => whnf
      refine ⟨fun q13 => ?_, fun q13 => ?_⟩
      · exfalso
        (try simp (disch := omega) only [bg_w_id, Int.toNat_natCast, rw_land, sh_land, not_true_eq_false, bg_up_ne, kc0, kc1, kc2, kc3, kc4, kc5, kc6, kc7, kc8, kc9, kc10, kc11, kc12, kc13, kc14, kc15, kc16, kc17, kc18, kc19, kc20, kc21, kc22, kc23, kc24, kc25, kc26, kc27, kc28, kc29, kc30, kc31, kc32, kc33] at q13) <;> (omega)
      · try simp (disch := omega) only [bg_w_id, Int.toNat_natCast, rw_land, sh_land, not_true_eq_false, bg_up_ne, kc0, kc1, kc2, kc3, kc4, kc5, kc6, kc7, kc8, kc9, kc10, kc11, kc12, kc13, kc14, kc15, kc16, kc17, kc18, kc19, kc20, kc21, kc22, kc23, kc24, kc25, kc26, kc27, kc28, kc29, kc30, kc31, kc32, kc33] at q13
        iterate 6 (refine hX _ ?_; conv => whnf)
        refine hX _ ?_; conv => whnf
        try (simp (disch := omega) only [bg_w_id, Int.toNat_natCast, rw_land, sh_land, not_true_eq_false, bg_up_ne]; try conv => whnf)
        refine ⟨by first | omega | (simp (disch := omega) only [bg_w_id, Int.toNat_natCast, rw_land, sh_land, not_true_eq_false, bg_up_ne]; omega), ?_⟩
        refine hX _ ?_; conv => whnf
        refine hX _ ?_; conv => whnf
        try (simp (disch := omega) only [bg_w_id, Int.toNat_natCast, rw_land, sh_land, not_true_eq_false, bg_up_ne]; try conv => whnf)
        refine ⟨by first | omega | (simp (disch := omega) only [bg_w_id, Int.toNat_natCast, rw_land, sh_land, not_true_eq_false, bg_up_ne]; omega), ?_⟩
        iterate 6 (refine hX _ ?_; conv => whnf)
        refine hX _ ?_; conv => whnf
        try (simp (disch := omega) only [bg_w_id, Int.toNat_natCast, rw_land, sh_land, not_true_eq_false, bg_up_ne]; try conv => whnf)
        refine ⟨by first | omega | (simp (disch := omega) only [bg_w_id, Int.toNat_natCast, rw_land, sh_land, not_true_eq_false, bg_up_ne]; omega), ?_⟩
        refine hX _ ?_; conv => whnf
        refine hX _ ?_; conv => whnf
        try (simp (disch := omega) only [bg_w_id, Int.toNat_natCast, rw_land, sh_land, not_true_eq_false, bg_up_ne]; try conv => whnf)
        refine ⟨by first | omega | (simp (disch := omega) only [bg_w_id, Int.toNat_natCast, rw_land, sh_land, not_true_eq_false, bg_up_ne]; omega), ?_⟩
        iterate 2 (refine hX _ ?_; conv => whnf)
        refine ih _ (fun k k1 k2 k3 => ?_) (fun j hj => ?_) ?_ (fun k hk => ?_)
        · rw [bg_up_ne k3, bg_up_ne k2]; exact f1 k k1 k2 k3
        · rw [bg_up_ne (by omega), bg_up_ne (by omega)]; exact f2 j hj
        · rw [bg_up_ne (by omega), bg_up_ne (by omega)]; exact f3
        · have fi := f4 i hi
          have fk := f4 k hk
          rw [if_neg (by omega), if_neg (by omega)] at fi
          refine ⟨?_, ?_⟩
          · rw [bg_up_ne (by omega), bg_up_at]
            by_cases e : k = i
            · subst e
              rw [if_pos rfl, if_pos (by omega), fi.1]
            · rw [if_neg (by omega), fk.1]
              by_cases e2 : k < i
              · rw [if_pos e2, if_pos (by omega)]
              · rw [if_neg e2, if_neg (by omega)]
          · rw [bg_up_at]
            by_cases e : k = i
            · subst e
              rw [if_pos rfl, if_pos (by omega)]
              first | (rw [bg_up_ne (by omega), fi.2]) | (rw [fi.2])
            · rw [if_neg (by omega), bg_up_ne (by omega), fk.2]
              by_cases e2 : k < i
              · rw [if_pos e2, if_pos (by omega)]
              · rw [if_neg e2, if_neg (by omega)]
  iterate 7 (refine hX _ ?_; conv => whnf)
  try simp only [kc0, kc1, kc2, kc3, kc4, kc5, kc6, kc7, kc8, kc9, kc10, kc11, kc12, kc13, kc14, kc15, kc16, kc17, kc18, kc19, kc20, kc21, kc22, kc23, kc24, kc25, kc26, kc27, kc28, kc29, kc30, kc31, kc32, kc33]
  refine l1 0 (by omega) _ (fun k k1 _ _ => bg_up_ne k1) (fun j hj => bg_up_nj hj) (bg_up_self _ _ _ _) (fun k hk => ?_)
  rw [bg_up_ne (by omega), bg_up_ne (by omega), if_neg (by omega), if_neg (by omega)]
  exact ⟨rfl, rfl⟩
def abv (s : Nat) (f : Nat → Int) (n : Nat) : Prop := ∀ k, k < n → s.testBit k = true → 0 < f k
theorem s_allAbove (d n c s : Nat) (hc : bg_nth (bg_SH n) c = some (11, 4, [])) (hs : s < 16) (f : Nat → Int) (h : bg_G) (hf : ∀ k : Nat, k < 4 → h c k = f k ∧ -100000000000 ≤ f k ∧ f k ≤ 100000000000) (Rt : bg_R) (hR1 : abv s f 4 → Rt (some (.inl 1)) (bg_SH n, h)) (hR0 : ¬ abv s f 4 → Rt (some (.inl 0)) (bg_SH n, h)) : bg_Ca bg_MS (d + 1) 21 [vR c, vI s] (bg_SH n, h) Rt := by
  generalize hsh : bg_SH n = sh at *
  refine bg_ca (cd := cd_X1_areAllAbove0) rfl rfl ?_
  intro X hX
  have l1 : ∀ i, i ≤ 4 → abv s f i → X (2, [oR c, oI (s : Int), oI (i : Int)], [], (sh, h), (0, 0)) := by
    refine lp_up 4 _ ?_ (fun i hi ih => ?_)
    · intro ha
      iterate 2 (refine hX _ ?_; conv => whnf)
      refine hX _ ?_; conv => whnf
      refine ⟨fun q4 => ?_, fun q4 => ?_⟩
      · try simp (disch := omega) only [bg_w_id, Int.toNat_natCast, rw_land, sh_land, not_true_eq_false, hc, kc0, kc1, kc2, kc3, kc4, kc5, kc6, kc7, kc8, kc9, kc10, kc11, kc12, kc13, kc14, kc15, kc16, kc17, kc18, kc19, kc20, kc21, kc22, kc23, kc24, kc25, kc26, kc27, kc28, kc29, kc30, kc31, kc32, kc33] at q4
        refine hX _ ?_; conv => whnf
        refine hX _ ?_; conv => whnf
        exact ⟨by omega, hR1 ha⟩
      · exfalso
        (try simp (disch := omega) only [bg_w_id, Int.toNat_natCast, rw_land, sh_land, not_true_eq_false, hc, kc0, kc1, kc2, kc3, kc4, kc5, kc6, kc7, kc8, kc9, kc10, kc11, kc12, kc13, kc14, kc15, kc16, kc17, kc18, kc19, kc20, kc21, kc22, kc23, kc24, kc25, kc26, kc27, kc28, kc29, kc30, kc31, kc32, kc33] at q4) <;> (omega)
    · intro ha
      have eb := bt_set hs hi
      have ef := (hf i hi).1
      have rf := (hf i hi).2
      by_cases c1 : s.testBit i = true
      · rw [if_pos c1] at eb
        by_cases c2 : 0 < f i
        · iterate 2 (refine hX _ ?_; conv => whnf)
          refine hX _ ?_; conv => whnf
          refine ⟨fun q4 => ?_, fun q4 => ?_⟩
          · exfalso
            (try simp (disch := omega) only [bg_w_id, Int.toNat_natCast, rw_land, sh_land, not_true_eq_false, hc, ef, kc0, kc1, kc2, kc3, kc4, kc5, kc6, kc7, kc8, kc9, kc10, kc11, kc12, kc13, kc14, kc15, kc16, kc17, kc18, kc19, kc20, kc21, kc22, kc23, kc24, kc25, kc26, kc27, kc28, kc29, kc30, kc31, kc32, kc33] at q4) <;> (omega)
          · try simp (disch := omega) only [bg_w_id, Int.toNat_natCast, rw_land, sh_land, not_true_eq_false, hc, ef, kc0, kc1, kc2, kc3, kc4, kc5, kc6, kc7, kc8, kc9, kc10, kc11, kc12, kc13, kc14, kc15, kc16, kc17, kc18, kc19, kc20, kc21, kc22, kc23, kc24, kc25, kc26, kc27, kc28, kc29, kc30, kc31, kc32, kc33] at q4
            iterate 2 (refine hX _ ?_; conv => whnf)
            refine hX _ ?_; conv => whnf
            try (simp (disch := omega) only [bg_w_id, Int.toNat_natCast, rw_land, sh_land, not_true_eq_false, hc, ef]; try conv => whnf)
            refine hX _ ?_; conv => whnf
            refine ⟨fun q10 => ?_, fun q10 => ?_⟩
            · exfalso
              (try simp (disch := omega) only [bg_w_id, Int.toNat_natCast, rw_land, sh_land, not_true_eq_false, hc, ef, kc0, kc1, kc2, kc3, kc4, kc5, kc6, kc7, kc8, kc9, kc10, kc11, kc12, kc13, kc14, kc15, kc16, kc17, kc18, kc19, kc20, kc21, kc22, kc23, kc24, kc25, kc26, kc27, kc28, kc29, kc30, kc31, kc32, kc33] at q10) <;> (omega)
            · try simp (disch := omega) only [bg_w_id, Int.toNat_natCast, rw_land, sh_land, not_true_eq_false, hc, ef, kc0, kc1, kc2, kc3, kc4, kc5, kc6, kc7, kc8, kc9, kc10, kc11, kc12, kc13, kc14, kc15, kc16, kc17, kc18, kc19, kc20, kc21, kc22, kc23, kc24, kc25, kc26, kc27, kc28, kc29, kc30, kc31, kc32, kc33] at q10
              iterate 5 (refine hX _ ?_; conv => whnf)
              refine hX _ ?_; conv => whnf
              refine ⟨fun q18 => ?_, fun q18 => ?_⟩
              · exfalso
                (try simp (disch := omega) only [bg_w_id, Int.toNat_natCast, rw_land, sh_land, not_true_eq_false, hc, ef, kc0, kc1, kc2, kc3, kc4, kc5, kc6, kc7, kc8, kc9, kc10, kc11, kc12, kc13, kc14, kc15, kc16, kc17, kc18, kc19, kc20, kc21, kc22, kc23, kc24, kc25, kc26, kc27, kc28, kc29, kc30, kc31, kc32, kc33] at q18) <;> (exact absurd ((bt_w _ _).symm.trans q18) (by show ¬ bt (s : Int) (i : Int) = 0; omega))
              · try simp (disch := omega) only [bg_w_id, Int.toNat_natCast, rw_land, sh_land, not_true_eq_false, hc, ef, kc0, kc1, kc2, kc3, kc4, kc5, kc6, kc7, kc8, kc9, kc10, kc11, kc12, kc13, kc14, kc15, kc16, kc17, kc18, kc19, kc20, kc21, kc22, kc23, kc24, kc25, kc26, kc27, kc28, kc29, kc30, kc31, kc32, kc33] at q18
                iterate 2 (refine hX _ ?_; conv => whnf)
                refine hX _ ?_; conv => whnf
                try (simp (disch := omega) only [bg_w_id, Int.toNat_natCast, rw_land, sh_land, not_true_eq_false, hc, ef]; try conv => whnf)
                refine ⟨by first | omega | (simp (disch := omega) only [bg_w_id, Int.toNat_natCast, rw_land, sh_land, not_true_eq_false, hc, ef]; omega), ?_⟩
                iterate 2 (refine hX _ ?_; conv => whnf)
                refine hX _ ?_; conv => whnf
                refine ⟨fun q26 => ?_, fun q26 => ?_⟩
                · try simp (disch := omega) only [bg_w_id, Int.toNat_natCast, rw_land, sh_land, not_true_eq_false, hc, ef, kc0, kc1, kc2, kc3, kc4, kc5, kc6, kc7, kc8, kc9, kc10, kc11, kc12, kc13, kc14, kc15, kc16, kc17, kc18, kc19, kc20, kc21, kc22, kc23, kc24, kc25, kc26, kc27, kc28, kc29, kc30, kc31, kc32, kc33] at q26
                  iterate 2 (refine hX _ ?_; conv => whnf)
                  refine ih (fun k hk hb => ?_)
                  by_cases e : k = i
                  · subst e; exact c2
                  · exact ha k (by omega) hb
                · exfalso
                  (try simp (disch := omega) only [bg_w_id, Int.toNat_natCast, rw_land, sh_land, not_true_eq_false, hc, ef, kc0, kc1, kc2, kc3, kc4, kc5, kc6, kc7, kc8, kc9, kc10, kc11, kc12, kc13, kc14, kc15, kc16, kc17, kc18, kc19, kc20, kc21, kc22, kc23, kc24, kc25, kc26, kc27, kc28, kc29, kc30, kc31, kc32, kc33] at q26) <;> (rw [bg_Cmp_gt, bg_W_id (by omega) (by omega), bg_W_id (by omega) (by omega)] at q26; omega)
        · iterate 2 (refine hX _ ?_; conv => whnf)
          refine hX _ ?_; conv => whnf
          refine ⟨fun q4 => ?_, fun q4 => ?_⟩
          · exfalso
            (try simp (disch := omega) only [bg_w_id, Int.toNat_natCast, rw_land, sh_land, not_true_eq_false, hc, ef, kc0, kc1, kc2, kc3, kc4, kc5, kc6, kc7, kc8, kc9, kc10, kc11, kc12, kc13, kc14, kc15, kc16, kc17, kc18, kc19, kc20, kc21, kc22, kc23, kc24, kc25, kc26, kc27, kc28, kc29, kc30, kc31, kc32, kc33] at q4) <;> (omega)
          · try simp (disch := omega) only [bg_w_id, Int.toNat_natCast, rw_land, sh_land, not_true_eq_false, hc, ef, kc0, kc1, kc2, kc3, kc4, kc5, kc6, kc7, kc8, kc9, kc10, kc11, kc12, kc13, kc14, kc15, kc16, kc17, kc18, kc19, kc20, kc21, kc22, kc23, kc24, kc25, kc26, kc27, kc28, kc29, kc30, kc31, kc32, kc33] at q4
            iterate 2 (refine hX _ ?_; conv => whnf)
            refine hX _ ?_; conv => whnf
            try (simp (disch := omega) only [bg_w_id, Int.toNat_natCast, rw_land, sh_land, not_true_eq_false, hc, ef]; try conv => whnf)
            refine hX _ ?_; conv => whnf
            refine ⟨fun q10 => ?_, fun q10 => ?_⟩
            · exfalso
              (try simp (disch := omega) only [bg_w_id, Int.toNat_natCast, rw_land, sh_land, not_true_eq_false, hc, ef, kc0, kc1, kc2, kc3, kc4, kc5, kc6, kc7, kc8, kc9, kc10, kc11, kc12, kc13, kc14, kc15, kc16, kc17, kc18, kc19, kc20, kc21, kc22, kc23, kc24, kc25, kc26, kc27, kc28, kc29, kc30, kc31, kc32, kc33] at q10) <;> (omega)
            · try simp (disch := omega) only [bg_w_id, Int.toNat_natCast, rw_land, sh_land, not_true_eq_false, hc, ef, kc0, kc1, kc2, kc3, kc4, kc5, kc6, kc7, kc8, kc9, kc10, kc11, kc12, kc13, kc14, kc15, kc16, kc17, kc18, kc19, kc20, kc21, kc22, kc23, kc24, kc25, kc26, kc27, kc28, kc29, kc30, kc31, kc32, kc33] at q10
              iterate 5 (refine hX _ ?_; conv => whnf)
              refine hX _ ?_; conv => whnf
              refine ⟨fun q18 => ?_, fun q18 => ?_⟩
              · exfalso
                (try simp (disch := omega) only [bg_w_id, Int.toNat_natCast, rw_land, sh_land, not_true_eq_false, hc, ef, kc0, kc1, kc2, kc3, kc4, kc5, kc6, kc7, kc8, kc9, kc10, kc11, kc12, kc13, kc14, kc15, kc16, kc17, kc18, kc19, kc20, kc21, kc22, kc23, kc24, kc25, kc26, kc27, kc28, kc29, kc30, kc31, kc32, kc33] at q18) <;> (exact absurd ((bt_w _ _).symm.trans q18) (by show ¬ bt (s : Int) (i : Int) = 0; omega))
              · try simp (disch := omega) only [bg_w_id, Int.toNat_natCast, rw_land, sh_land, not_true_eq_false, hc, ef, kc0, kc1, kc2, kc3, kc4, kc5, kc6, kc7, kc8, kc9, kc10, kc11, kc12, kc13, kc14, kc15, kc16, kc17, kc18, kc19, kc20, kc21, kc22, kc23, kc24, kc25, kc26, kc27, kc28, kc29, kc30, kc31, kc32, kc33] at q18
                iterate 2 (refine hX _ ?_; conv => whnf)
                refine hX _ ?_; conv => whnf
                try (simp (disch := omega) only [bg_w_id, Int.toNat_natCast, rw_land, sh_land, not_true_eq_false, hc, ef]; try conv => whnf)
                refine ⟨by first | omega | (simp (disch := omega) only [bg_w_id, Int.toNat_natCast, rw_land, sh_land, not_true_eq_false, hc, ef]; omega), ?_⟩
                iterate 2 (refine hX _ ?_; conv => whnf)
                refine hX _ ?_; conv => whnf
                refine ⟨fun q26 => ?_, fun q26 => ?_⟩
                · exfalso
                  (try simp (disch := omega) only [bg_w_id, Int.toNat_natCast, rw_land, sh_land, not_true_eq_false, hc, ef, kc0, kc1, kc2, kc3, kc4, kc5, kc6, kc7, kc8, kc9, kc10, kc11, kc12, kc13, kc14, kc15, kc16, kc17, kc18, kc19, kc20, kc21, kc22, kc23, kc24, kc25, kc26, kc27, kc28, kc29, kc30, kc31, kc32, kc33] at q26) <;> (rw [bg_Cmp_gt, bg_W_id (by omega) (by omega), bg_W_id (by omega) (by omega)] at q26; omega)
                · try simp (disch := omega) only [bg_w_id, Int.toNat_natCast, rw_land, sh_land, not_true_eq_false, hc, ef, kc0, kc1, kc2, kc3, kc4, kc5, kc6, kc7, kc8, kc9, kc10, kc11, kc12, kc13, kc14, kc15, kc16, kc17, kc18, kc19, kc20, kc21, kc22, kc23, kc24, kc25, kc26, kc27, kc28, kc29, kc30, kc31, kc32, kc33] at q26
                  refine hX _ ?_; conv => whnf
                  refine hX _ ?_; conv => whnf
                  exact ⟨by omega, hR0 (fun x => c2 (x i hi c1))⟩
      · rw [if_neg c1] at eb
        iterate 2 (refine hX _ ?_; conv => whnf)
        refine hX _ ?_; conv => whnf
        refine ⟨fun q4 => ?_, fun q4 => ?_⟩
        · exfalso
          (try simp (disch := omega) only [bg_w_id, Int.toNat_natCast, rw_land, sh_land, not_true_eq_false, hc, kc0, kc1, kc2, kc3, kc4, kc5, kc6, kc7, kc8, kc9, kc10, kc11, kc12, kc13, kc14, kc15, kc16, kc17, kc18, kc19, kc20, kc21, kc22, kc23, kc24, kc25, kc26, kc27, kc28, kc29, kc30, kc31, kc32, kc33] at q4) <;> (omega)
        · try simp (disch := omega) only [bg_w_id, Int.toNat_natCast, rw_land, sh_land, not_true_eq_false, hc, kc0, kc1, kc2, kc3, kc4, kc5, kc6, kc7, kc8, kc9, kc10, kc11, kc12, kc13, kc14, kc15, kc16, kc17, kc18, kc19, kc20, kc21, kc22, kc23, kc24, kc25, kc26, kc27, kc28, kc29, kc30, kc31, kc32, kc33] at q4
          iterate 2 (refine hX _ ?_; conv => whnf)
          refine hX _ ?_; conv => whnf
          try (simp (disch := omega) only [bg_w_id, Int.toNat_natCast, rw_land, sh_land, not_true_eq_false, hc]; try conv => whnf)
          refine hX _ ?_; conv => whnf
          refine ⟨fun q10 => ?_, fun q10 => ?_⟩
          · exfalso
            (try simp (disch := omega) only [bg_w_id, Int.toNat_natCast, rw_land, sh_land, not_true_eq_false, hc, kc0, kc1, kc2, kc3, kc4, kc5, kc6, kc7, kc8, kc9, kc10, kc11, kc12, kc13, kc14, kc15, kc16, kc17, kc18, kc19, kc20, kc21, kc22, kc23, kc24, kc25, kc26, kc27, kc28, kc29, kc30, kc31, kc32, kc33] at q10) <;> (omega)
          · try simp (disch := omega) only [bg_w_id, Int.toNat_natCast, rw_land, sh_land, not_true_eq_false, hc, kc0, kc1, kc2, kc3, kc4, kc5, kc6, kc7, kc8, kc9, kc10, kc11, kc12, kc13, kc14, kc15, kc16, kc17, kc18, kc19, kc20, kc21, kc22, kc23, kc24, kc25, kc26, kc27, kc28, kc29, kc30, kc31, kc32, kc33] at q10
            iterate 5 (refine hX _ ?_; conv => whnf)
            refine hX _ ?_; conv => whnf
            refine ⟨fun q18 => ?_, fun q18 => ?_⟩
            · try simp (disch := omega) only [bg_w_id, Int.toNat_natCast, rw_land, sh_land, not_true_eq_false, hc, kc0, kc1, kc2, kc3, kc4, kc5, kc6, kc7, kc8, kc9, kc10, kc11, kc12, kc13, kc14, kc15, kc16, kc17, kc18, kc19, kc20, kc21, kc22, kc23, kc24, kc25, kc26, kc27, kc28, kc29, kc30, kc31, kc32, kc33] at q18
              iterate 2 (refine hX _ ?_; conv => whnf)
              refine ih (fun k hk hb => ?_)
              by_cases e : k = i
              · subst e; exact absurd hb c1
              · exact ha k (by omega) hb
            · exfalso
              (try simp (disch := omega) only [bg_w_id, Int.toNat_natCast, rw_land, sh_land, not_true_eq_false, hc, kc0, kc1, kc2, kc3, kc4, kc5, kc6, kc7, kc8, kc9, kc10, kc11, kc12, kc13, kc14, kc15, kc16, kc17, kc18, kc19, kc20, kc21, kc22, kc23, kc24, kc25, kc26, kc27, kc28, kc29, kc30, kc31, kc32, kc33] at q18) <;> (apply q18; show bg_w (bt (s : Int) (i : Int)) = 0; rw [bt_w]; exact eb)
  iterate 2 (refine hX _ ?_; conv => whnf)
  exact l1 0 (by omega) (fun k hk => absurd hk (by omega))
/-- the chances of a support, by parts of one whole -/
def mixP (B : Nat → Nat → Int) (a b : Nat) : Prop := WW B a b ≠ 0 ∧ abv a (fun g => sgW B a b * GP B a b g) 4 ∧ abv b (fun c => sgW B a b * CP B a b c) 4
def MIX (h : bg_G) (B : Nat → Nat → Int) (a b : Nat) : Prop := h 56 4 = sgW B a b * WW B a b ∧ ∀ k : Nat, k < 4 → h 62 k = sgW B a b * GP B a b k ∧ h 63 k = sgW B a b * CP B a b k
def frX (h h' : bg_G) : Prop := (∀ k, k ≠ 56 → k ≠ 62 → k ≠ 63 → ¬ (65 ≤ k ∧ k ≤ 67) → h' k = h k) ∧ ∀ j, j ≠ 4 → h' 56 j = h 56 j
theorem s_mixes (d n a b : Nat) (ha : a < 16) (hb : b < 16) (hab : pc 15 b = pc 15 a) (B : Nat → Nat → Int) (hG : BG B) (h : bg_G) (hB : BR h B) (Rt : bg_R) (hR1 : mixP B a b → ∀ h' : bg_G, frX h h' → MIX h' B a b → Rt (some (.inl 1)) (bg_SH n, h')) (hR0 : ¬ mixP B a b → ∀ h' : bg_G, frX h h' → Rt (some (.inl 0)) (bg_SH n, h')) : bg_Ca bg_MS (d + 3) 19 [vR 56, vI a, vI b] (bg_SH n, h) Rt := by
  have rw4 := WW_rg hG a b 4 (by omega)
  refine bg_ca (cd := cd_X1_mixes) rfl rfl ?_
  intro X hX
  -- behind the sums
  have fin2 : ∀ h' : bg_G, frX h h' → WW B a b ≠ 0 → MIX h' B a b → ∀ j3 j4 j5 j6 : Option bg_V, X (135, [oR 56, oI (a : Int), oI (b : Int), j3, j4, j5, j6], [], (bg_SH n, h'), (0, 0)) := by
    intro h' f1 hw f2 j3 j4 j5 j6
    have s1 : sgW B a b = 1 ∨ sgW B a b = -1 := by unfold sgW; split <;> simp
    have rg : ∀ k : Nat, k < 4 → (-100000000000 ≤ sgW B a b * GP B a b k ∧ sgW B a b * GP B a b k ≤ 100000000000) ∧ (-100000000000 ≤ sgW B a b * CP B a b k ∧ sgW B a b * CP B a b k ≤ 100000000000) := fun k hk => by
      have x1 := GP_rg hG a b k 4 (by omega)
      have x2 := CP_rg hG a b k 4 (by omega)
      have x1 : -24000000000 ≤ GP B a b k ∧ GP B a b k ≤ 24000000000 := x1
      have x2 : -24000000000 ≤ CP B a b k ∧ CP B a b k ≤ 24000000000 := x2
      rcases s1 with e | e <;> rw [e] <;> omega
    by_cases c1 : abv a (fun g => sgW B a b * GP B a b g) 4
    · by_cases c2 : abv b (fun c => sgW B a b * CP B a b c) 4
      · iterate 3 (refine hX _ ?_; conv => whnf)
        refine hX _ ?_; conv => whnf
        try simp (disch := omega) only [bg_w_id, Int.toNat_natCast, rw_land, sh_land, not_true_eq_false]
        refine s_allAbove (d + 1) n 62 a rfl ha (fun g => sgW B a b * GP B a b g) h' (fun k hk => ⟨(f2.2 k hk).1, (rg k hk).1⟩) _ (fun _ => ?_) (fun x => absurd c1 x)
        conv => whnf
        refine hX _ ?_; conv => whnf
        refine ⟨fun q143 => ?_, fun q143 => ?_⟩
        · exfalso
          (try simp (disch := omega) only [bg_w_id, Int.toNat_natCast, rw_land, sh_land, not_true_eq_false, kc0, kc1, kc2, kc3, kc4, kc5, kc6, kc7, kc8, kc9, kc10, kc11, kc12, kc13, kc14, kc15, kc16, kc17, kc18, kc19, kc20, kc21, kc22, kc23, kc24, kc25, kc26, kc27, kc28, kc29, kc30, kc31, kc32, kc33] at q143) <;> (omega)
        · try simp (disch := omega) only [bg_w_id, Int.toNat_natCast, rw_land, sh_land, not_true_eq_false, kc0, kc1, kc2, kc3, kc4, kc5, kc6, kc7, kc8, kc9, kc10, kc11, kc12, kc13, kc14, kc15, kc16, kc17, kc18, kc19, kc20, kc21, kc22, kc23, kc24, kc25, kc26, kc27, kc28, kc29, kc30, kc31, kc32, kc33] at q143
          iterate 3 (refine hX _ ?_; conv => whnf)
          refine hX _ ?_; conv => whnf
          try simp (disch := omega) only [bg_w_id, Int.toNat_natCast, rw_land, sh_land, not_true_eq_false]
          refine s_allAbove (d + 1) n 63 b rfl hb (fun c => sgW B a b * CP B a b c) h' (fun k hk => ⟨(f2.2 k hk).2, (rg k hk).2⟩) _ (fun _ => ?_) (fun x => absurd c2 x)
          conv => whnf
          refine hX _ ?_; conv => whnf
          refine ⟨fun q154 => ?_, fun q154 => ?_⟩
          · exfalso
            (try simp (disch := omega) only [bg_w_id, Int.toNat_natCast, rw_land, sh_land, not_true_eq_false, kc0, kc1, kc2, kc3, kc4, kc5, kc6, kc7, kc8, kc9, kc10, kc11, kc12, kc13, kc14, kc15, kc16, kc17, kc18, kc19, kc20, kc21, kc22, kc23, kc24, kc25, kc26, kc27, kc28, kc29, kc30, kc31, kc32, kc33] at q154) <;> (omega)
          · try simp (disch := omega) only [bg_w_id, Int.toNat_natCast, rw_land, sh_land, not_true_eq_false, kc0, kc1, kc2, kc3, kc4, kc5, kc6, kc7, kc8, kc9, kc10, kc11, kc12, kc13, kc14, kc15, kc16, kc17, kc18, kc19, kc20, kc21, kc22, kc23, kc24, kc25, kc26, kc27, kc28, kc29, kc30, kc31, kc32, kc33] at q154
            iterate 2 (refine hX _ ?_; conv => whnf)
            refine hX _ ?_; conv => whnf
            exact ⟨by omega, hR1 ⟨hw, c1, c2⟩ h' f1 f2⟩
      · iterate 3 (refine hX _ ?_; conv => whnf)
        refine hX _ ?_; conv => whnf
        try simp (disch := omega) only [bg_w_id, Int.toNat_natCast, rw_land, sh_land, not_true_eq_false]
        refine s_allAbove (d + 1) n 62 a rfl ha (fun g => sgW B a b * GP B a b g) h' (fun k hk => ⟨(f2.2 k hk).1, (rg k hk).1⟩) _ (fun _ => ?_) (fun x => absurd c1 x)
        conv => whnf
        refine hX _ ?_; conv => whnf
        refine ⟨fun q143 => ?_, fun q143 => ?_⟩
        · exfalso
          (try simp (disch := omega) only [bg_w_id, Int.toNat_natCast, rw_land, sh_land, not_true_eq_false, kc0, kc1, kc2, kc3, kc4, kc5, kc6, kc7, kc8, kc9, kc10, kc11, kc12, kc13, kc14, kc15, kc16, kc17, kc18, kc19, kc20, kc21, kc22, kc23, kc24, kc25, kc26, kc27, kc28, kc29, kc30, kc31, kc32, kc33] at q143) <;> (omega)
        · try simp (disch := omega) only [bg_w_id, Int.toNat_natCast, rw_land, sh_land, not_true_eq_false, kc0, kc1, kc2, kc3, kc4, kc5, kc6, kc7, kc8, kc9, kc10, kc11, kc12, kc13, kc14, kc15, kc16, kc17, kc18, kc19, kc20, kc21, kc22, kc23, kc24, kc25, kc26, kc27, kc28, kc29, kc30, kc31, kc32, kc33] at q143
          iterate 3 (refine hX _ ?_; conv => whnf)
          refine hX _ ?_; conv => whnf
          try simp (disch := omega) only [bg_w_id, Int.toNat_natCast, rw_land, sh_land, not_true_eq_false]
          refine s_allAbove (d + 1) n 63 b rfl hb (fun c => sgW B a b * CP B a b c) h' (fun k hk => ⟨(f2.2 k hk).2, (rg k hk).2⟩) _ (fun x => absurd x c2) (fun _ => ?_)
          conv => whnf
          refine hX _ ?_; conv => whnf
          refine ⟨fun q154 => ?_, fun q154 => ?_⟩
          · try simp (disch := omega) only [bg_w_id, Int.toNat_natCast, rw_land, sh_land, not_true_eq_false, kc0, kc1, kc2, kc3, kc4, kc5, kc6, kc7, kc8, kc9, kc10, kc11, kc12, kc13, kc14, kc15, kc16, kc17, kc18, kc19, kc20, kc21, kc22, kc23, kc24, kc25, kc26, kc27, kc28, kc29, kc30, kc31, kc32, kc33] at q154
            refine hX _ ?_; conv => whnf
            refine hX _ ?_; conv => whnf
            exact ⟨by omega, hR0 (fun x => c2 x.2.2) h' f1⟩
          · exfalso
            (try simp (disch := omega) only [bg_w_id, Int.toNat_natCast, rw_land, sh_land, not_true_eq_false, kc0, kc1, kc2, kc3, kc4, kc5, kc6, kc7, kc8, kc9, kc10, kc11, kc12, kc13, kc14, kc15, kc16, kc17, kc18, kc19, kc20, kc21, kc22, kc23, kc24, kc25, kc26, kc27, kc28, kc29, kc30, kc31, kc32, kc33] at q154) <;> (omega)
    · iterate 3 (refine hX _ ?_; conv => whnf)
      refine hX _ ?_; conv => whnf
      try simp (disch := omega) only [bg_w_id, Int.toNat_natCast, rw_land, sh_land, not_true_eq_false]
      refine s_allAbove (d + 1) n 62 a rfl ha (fun g => sgW B a b * GP B a b g) h' (fun k hk => ⟨(f2.2 k hk).1, (rg k hk).1⟩) _ (fun x => absurd x c1) (fun _ => ?_)
      conv => whnf
      refine hX _ ?_; conv => whnf
      refine ⟨fun q143 => ?_, fun q143 => ?_⟩
      · try simp (disch := omega) only [bg_w_id, Int.toNat_natCast, rw_land, sh_land, not_true_eq_false, kc0, kc1, kc2, kc3, kc4, kc5, kc6, kc7, kc8, kc9, kc10, kc11, kc12, kc13, kc14, kc15, kc16, kc17, kc18, kc19, kc20, kc21, kc22, kc23, kc24, kc25, kc26, kc27, kc28, kc29, kc30, kc31, kc32, kc33] at q143
        refine hX _ ?_; conv => whnf
        refine hX _ ?_; conv => whnf
        exact ⟨by omega, hR0 (fun x => c1 x.2.1) h' f1⟩
      · exfalso
        (try simp (disch := omega) only [bg_w_id, Int.toNat_natCast, rw_land, sh_land, not_true_eq_false, kc0, kc1, kc2, kc3, kc4, kc5, kc6, kc7, kc8, kc9, kc10, kc11, kc12, kc13, kc14, kc15, kc16, kc17, kc18, kc19, kc20, kc21, kc22, kc23, kc24, kc25, kc26, kc27, kc28, kc29, kc30, kc31, kc32, kc33] at q143) <;> (omega)
  have fin1 : ∀ h' : bg_G, frX h h' → h' 56 4 = WW B a b → (∀ k : Nat, k < 4 → h' 62 k = GP B a b k ∧ h' 63 k = CP B a b k) → ∀ j3 j4 j5 j6 : Option bg_V, X (111, [oR 56, oI (a : Int), oI (b : Int), j3, j4, j5, j6], [], (bg_SH n, h'), (0, 0)) := by
    intro h' f1 f2 f3 j3 j4 j5 j6
    have rw4 : -96000000000 ≤ WW B a b ∧ WW B a b ≤ 96000000000 := rw4
    by_cases c1 : WW B a b = 0
    · iterate 4 (refine hX _ ?_; conv => whnf)
      try simp only [kc0, kc1, kc2, kc3, kc4, kc5, kc6, kc7, kc8, kc9, kc10, kc11, kc12, kc13, kc14, kc15, kc16, kc17, kc18, kc19, kc20, kc21, kc22, kc23, kc24, kc25, kc26, kc27, kc28, kc29, kc30, kc31, kc32, kc33]
      refine hX _ ?_; conv => whnf
      refine ⟨fun q117 => ?_, fun q117 => ?_⟩
      · exfalso
        (try simp (disch := omega) only [bg_w_id, Int.toNat_natCast, rw_land, sh_land, not_true_eq_false, f2, kc0, kc1, kc2, kc3, kc4, kc5, kc6, kc7, kc8, kc9, kc10, kc11, kc12, kc13, kc14, kc15, kc16, kc17, kc18, kc19, kc20, kc21, kc22, kc23, kc24, kc25, kc26, kc27, kc28, kc29, kc30, kc31, kc32, kc33] at q117) <;> (rw [bg_Cmp_eq, bg_W_id (by omega) (by omega), bg_W_id (by omega) (by omega)] at q117; omega)
      · try simp (disch := omega) only [bg_w_id, Int.toNat_natCast, rw_land, sh_land, not_true_eq_false, f2, kc0, kc1, kc2, kc3, kc4, kc5, kc6, kc7, kc8, kc9, kc10, kc11, kc12, kc13, kc14, kc15, kc16, kc17, kc18, kc19, kc20, kc21, kc22, kc23, kc24, kc25, kc26, kc27, kc28, kc29, kc30, kc31, kc32, kc33] at q117
        refine hX _ ?_; conv => whnf
        refine hX _ ?_; conv => whnf
        exact ⟨by omega, hR0 (fun x => x.1 c1) h' f1⟩
    · by_cases c2 : WW B a b < 0
      · have es : sgW B a b = -1 := by unfold sgW; rw [if_pos c2]
        iterate 4 (refine hX _ ?_; conv => whnf)
        try simp only [kc0, kc1, kc2, kc3, kc4, kc5, kc6, kc7, kc8, kc9, kc10, kc11, kc12, kc13, kc14, kc15, kc16, kc17, kc18, kc19, kc20, kc21, kc22, kc23, kc24, kc25, kc26, kc27, kc28, kc29, kc30, kc31, kc32, kc33]
        refine hX _ ?_; conv => whnf
        refine ⟨fun q117 => ?_, fun q117 => ?_⟩
        · try simp (disch := omega) only [bg_w_id, Int.toNat_natCast, rw_land, sh_land, not_true_eq_false, f2, kc0, kc1, kc2, kc3, kc4, kc5, kc6, kc7, kc8, kc9, kc10, kc11, kc12, kc13, kc14, kc15, kc16, kc17, kc18, kc19, kc20, kc21, kc22, kc23, kc24, kc25, kc26, kc27, kc28, kc29, kc30, kc31, kc32, kc33] at q117
          iterate 4 (refine hX _ ?_; conv => whnf)
          try simp only [kc0, kc1, kc2, kc3, kc4, kc5, kc6, kc7, kc8, kc9, kc10, kc11, kc12, kc13, kc14, kc15, kc16, kc17, kc18, kc19, kc20, kc21, kc22, kc23, kc24, kc25, kc26, kc27, kc28, kc29, kc30, kc31, kc32, kc33]
          refine hX _ ?_; conv => whnf
          refine ⟨fun q128 => ?_, fun q128 => ?_⟩
          · exfalso
            (try simp (disch := omega) only [bg_w_id, Int.toNat_natCast, rw_land, sh_land, not_true_eq_false, f2, kc0, kc1, kc2, kc3, kc4, kc5, kc6, kc7, kc8, kc9, kc10, kc11, kc12, kc13, kc14, kc15, kc16, kc17, kc18, kc19, kc20, kc21, kc22, kc23, kc24, kc25, kc26, kc27, kc28, kc29, kc30, kc31, kc32, kc33] at q128) <;> (rw [bg_Cmp_lt, bg_W_id (by omega) (by omega), bg_W_id (by omega) (by omega)] at q128; omega)
          · try simp (disch := omega) only [bg_w_id, Int.toNat_natCast, rw_land, sh_land, not_true_eq_false, f2, kc0, kc1, kc2, kc3, kc4, kc5, kc6, kc7, kc8, kc9, kc10, kc11, kc12, kc13, kc14, kc15, kc16, kc17, kc18, kc19, kc20, kc21, kc22, kc23, kc24, kc25, kc26, kc27, kc28, kc29, kc30, kc31, kc32, kc33] at q128
            refine hX _ ?_; conv => whnf
            refine hX _ ?_; conv => whnf
            try simp (disch := omega) only [bg_w_id, Int.toNat_natCast, rw_land, sh_land, not_true_eq_false, f2]
            refine s_turnSigns (d + 1) n h' _ (fun h2 g1 g2 g3 g4 => ?_)
            conv => whnf
            refine fin2 h2 ⟨fun k k1 k2 k3 k4 => by rw [g1 k k1 k2 k3]; exact f1.1 k k1 k2 k3 k4, fun j hj => by rw [g2 j hj]; exact f1.2 j hj⟩ c1 ⟨by rw [g3, f2, es]; omega, fun k hk => ?_⟩ _ _ _ _
            rw [(g4 k hk).1, (g4 k hk).2, (f3 k hk).1, (f3 k hk).2, es]
            exact ⟨by omega, by omega⟩
        · exfalso
          (try simp (disch := omega) only [bg_w_id, Int.toNat_natCast, rw_land, sh_land, not_true_eq_false, f2, kc0, kc1, kc2, kc3, kc4, kc5, kc6, kc7, kc8, kc9, kc10, kc11, kc12, kc13, kc14, kc15, kc16, kc17, kc18, kc19, kc20, kc21, kc22, kc23, kc24, kc25, kc26, kc27, kc28, kc29, kc30, kc31, kc32, kc33] at q117) <;> (rw [bg_Cmp_eq, bg_W_id (by omega) (by omega), bg_W_id (by omega) (by omega)] at q117; omega)
      · have es : sgW B a b = 1 := by unfold sgW; rw [if_neg c2]
        iterate 4 (refine hX _ ?_; conv => whnf)
        try simp only [kc0, kc1, kc2, kc3, kc4, kc5, kc6, kc7, kc8, kc9, kc10, kc11, kc12, kc13, kc14, kc15, kc16, kc17, kc18, kc19, kc20, kc21, kc22, kc23, kc24, kc25, kc26, kc27, kc28, kc29, kc30, kc31, kc32, kc33]
        refine hX _ ?_; conv => whnf
        refine ⟨fun q117 => ?_, fun q117 => ?_⟩
        · try simp (disch := omega) only [bg_w_id, Int.toNat_natCast, rw_land, sh_land, not_true_eq_false, f2, kc0, kc1, kc2, kc3, kc4, kc5, kc6, kc7, kc8, kc9, kc10, kc11, kc12, kc13, kc14, kc15, kc16, kc17, kc18, kc19, kc20, kc21, kc22, kc23, kc24, kc25, kc26, kc27, kc28, kc29, kc30, kc31, kc32, kc33] at q117
          iterate 4 (refine hX _ ?_; conv => whnf)
          try simp only [kc0, kc1, kc2, kc3, kc4, kc5, kc6, kc7, kc8, kc9, kc10, kc11, kc12, kc13, kc14, kc15, kc16, kc17, kc18, kc19, kc20, kc21, kc22, kc23, kc24, kc25, kc26, kc27, kc28, kc29, kc30, kc31, kc32, kc33]
          refine hX _ ?_; conv => whnf
          refine ⟨fun q128 => ?_, fun q128 => ?_⟩
          · try simp (disch := omega) only [bg_w_id, Int.toNat_natCast, rw_land, sh_land, not_true_eq_false, f2, kc0, kc1, kc2, kc3, kc4, kc5, kc6, kc7, kc8, kc9, kc10, kc11, kc12, kc13, kc14, kc15, kc16, kc17, kc18, kc19, kc20, kc21, kc22, kc23, kc24, kc25, kc26, kc27, kc28, kc29, kc30, kc31, kc32, kc33] at q128
            refine fin2 h' f1 c1 ⟨by rw [f2, es]; omega, fun k hk => ?_⟩ _ _ _ _
            rw [(f3 k hk).1, (f3 k hk).2, es]
            exact ⟨by omega, by omega⟩
          · exfalso
            (try simp (disch := omega) only [bg_w_id, Int.toNat_natCast, rw_land, sh_land, not_true_eq_false, f2, kc0, kc1, kc2, kc3, kc4, kc5, kc6, kc7, kc8, kc9, kc10, kc11, kc12, kc13, kc14, kc15, kc16, kc17, kc18, kc19, kc20, kc21, kc22, kc23, kc24, kc25, kc26, kc27, kc28, kc29, kc30, kc31, kc32, kc33] at q128) <;> (rw [bg_Cmp_lt, bg_W_id (by omega) (by omega), bg_W_id (by omega) (by omega)] at q128; omega)
        · exfalso
          (try simp (disch := omega) only [bg_w_id, Int.toNat_natCast, rw_land, sh_land, not_true_eq_false, f2, kc0, kc1, kc2, kc3, kc4, kc5, kc6, kc7, kc8, kc9, kc10, kc11, kc12, kc13, kc14, kc15, kc16, kc17, kc18, kc19, kc20, kc21, kc22, kc23, kc24, kc25, kc26, kc27, kc28, kc29, kc30, kc31, kc32, kc33] at q117) <;> (rw [bg_Cmp_eq, bg_W_id (by omega) (by omega), bg_W_id (by omega) (by omega)] at q117; omega)
  have l1 : ∀ g, g ≤ 4 → ∀ (h' : bg_G) (j4 j5 j6 : Option bg_V), frX h h' → h' 56 4 = sm g (fun g => GP B a b g) → (∀ k : Nat, k < 4 → h' 62 k = (if k < g then GP B a b k else 0) ∧ h' 63 k = sm g (fun g => mmF B a b g k)) → X (23, [oR 56, oI (a : Int), oI (b : Int), oI (g : Int), j4, j5, j6], [], (bg_SH n, h'), (0, 0)) := by
    refine lp_up 4 _ ?_ (fun g hg ih => ?_)
    · intro h' j4 j5 j6 f1 f2 f3
      iterate 2 (refine hX _ ?_; conv => whnf)
      refine hX _ ?_; conv => whnf
      refine ⟨fun q25 => ?_, fun q25 => ?_⟩
      · try simp (disch := omega) only [bg_w_id, Int.toNat_natCast, rw_land, sh_land, not_true_eq_false, kc0, kc1, kc2, kc3, kc4, kc5, kc6, kc7, kc8, kc9, kc10, kc11, kc12, kc13, kc14, kc15, kc16, kc17, kc18, kc19, kc20, kc21, kc22, kc23, kc24, kc25, kc26, kc27, kc28, kc29, kc30, kc31, kc32, kc33] at q25
        refine fin1 h' f1 f2 (fun k hk => ?_) _ _ _ _
        have := f3 k hk
        rw [if_pos hk] at this
        exact this
      · exfalso
        (try simp (disch := omega) only [bg_w_id, Int.toNat_natCast, rw_land, sh_land, not_true_eq_false, kc0, kc1, kc2, kc3, kc4, kc5, kc6, kc7, kc8, kc9, kc10, kc11, kc12, kc13, kc14, kc15, kc16, kc17, kc18, kc19, kc20, kc21, kc22, kc23, kc24, kc25, kc26, kc27, kc28, kc29, kc30, kc31, kc32, kc33] at q25) <;> (omega)
    · intro h' j4 j5 j6 f1 f2 f3
      have l2 : ∀ c, c ≤ 4 → ∀ (h2 : bg_G) (j5 j6 : Option bg_V), frX h h2 → h2 56 4 = sm g (fun g => GP B a b g) + sm c (fun c => mmF B a b g c) → (∀ k : Nat, k < 4 → h2 62 k = (if k < g then GP B a b k else if k = g then sm c (fun c => mmF B a b g c) else 0) ∧ h2 63 k = sm (if k < c then g + 1 else g) (fun g => mmF B a b g k)) → X (31, [oR 56, oI (a : Int), oI (b : Int), oI (g : Int), oI (c : Int), j5, j6], [], (bg_SH n, h2), (0, 0)) := by
        refine lp_up 4 _ ?_ (fun c hc ih2 => ?_)
        · intro h2 j5 j6 e1 e2 e3
          iterate 2 (refine hX _ ?_; conv => whnf)
          refine hX _ ?_; conv => whnf
          refine ⟨fun q34 => ?_, fun q34 => ?_⟩
          · try simp (disch := omega) only [bg_w_id, Int.toNat_natCast, rw_land, sh_land, not_true_eq_false, kc0, kc1, kc2, kc3, kc4, kc5, kc6, kc7, kc8, kc9, kc10, kc11, kc12, kc13, kc14, kc15, kc16, kc17, kc18, kc19, kc20, kc21, kc22, kc23, kc24, kc25, kc26, kc27, kc28, kc29, kc30, kc31, kc32, kc33] at q34
            iterate 2 (refine hX _ ?_; conv => whnf)
            refine ih h2 _ _ _ e1 e2 (fun k hk => ?_)
            have := e3 k hk
            rw [if_pos hk] at this
            refine ⟨?_, this.2⟩
            rw [this.1]
            by_cases x : k < g
            · rw [if_pos x, if_pos (by omega)]
            · rw [if_neg x]
              by_cases y : k = g
              · rw [if_pos y, if_pos (by omega), y]
                rfl
              · rw [if_neg y, if_neg (by omega)]
          · exfalso
            (try simp (disch := omega) only [bg_w_id, Int.toNat_natCast, rw_land, sh_land, not_true_eq_false, kc0, kc1, kc2, kc3, kc4, kc5, kc6, kc7, kc8, kc9, kc10, kc11, kc12, kc13, kc14, kc15, kc16, kc17, kc18, kc19, kc20, kc21, kc22, kc23, kc24, kc25, kc26, kc27, kc28, kc29, kc30, kc31, kc32, kc33] at q34) <;> (omega)
        · intro h2 j5 j6 e1 e2 e3
          have ebg := bt_set ha hg
          have ebc := bt_set hb hc
          have skip : mmF B a b g c = 0 → ∀ j5 j6 : Option bg_V, X (31, [oR 56, oI (a : Int), oI (b : Int), oI (g : Int), oI ((c : Int) + 1), j5, j6], [], (bg_SH n, h2), (0, 0)) := by
            intro hz j5 j6
            refine ih2 h2 _ _ e1 (by rw [sm_s, hz, e2]; omega) (fun k hk => ?_)
            have := e3 k hk
            rw [sm_s, hz, Int.add_zero]
            refine ⟨this.1, ?_⟩
            rw [this.2]
            by_cases x : k = c
            · rw [if_neg (by omega), if_pos (by omega), sm_s, x, hz, Int.add_zero]
            · by_cases y : k < c
              · rw [if_pos y, if_pos (by omega)]
              · rw [if_neg y, if_neg (by omega)]
          by_cases c1 : a.testBit g = true
          · rw [if_pos c1] at ebg
            by_cases c2 : b.testBit c = true
            · rw [if_pos c2] at ebc
              have em : mmF B a b g c = cof (pc 15 a) (SQ B a b) (ah a g) (ah b c) := by unfold mmF; rw [if_pos ⟨c1, c2⟩]
              obtain ⟨m1, m2⟩ := (ah_s a ha g hg).2 c1
              obtain ⟨m3, m4⟩ := (ah_s b hb c hc).2 c2
              iterate 2 (refine hX _ ?_; conv => whnf)
              refine hX _ ?_; conv => whnf
              refine ⟨fun q34 => ?_, fun q34 => ?_⟩
              · exfalso
                (try simp (disch := omega) only [bg_w_id, Int.toNat_natCast, rw_land, sh_land, not_true_eq_false, kc0, kc1, kc2, kc3, kc4, kc5, kc6, kc7, kc8, kc9, kc10, kc11, kc12, kc13, kc14, kc15, kc16, kc17, kc18, kc19, kc20, kc21, kc22, kc23, kc24, kc25, kc26, kc27, kc28, kc29, kc30, kc31, kc32, kc33] at q34) <;> (omega)
              · try simp (disch := omega) only [bg_w_id, Int.toNat_natCast, rw_land, sh_land, not_true_eq_false, kc0, kc1, kc2, kc3, kc4, kc5, kc6, kc7, kc8, kc9, kc10, kc11, kc12, kc13, kc14, kc15, kc16, kc17, kc18, kc19, kc20, kc21, kc22, kc23, kc24, kc25, kc26, kc27, kc28, kc29, kc30, kc31, kc32, kc33] at q34
                iterate 5 (refine hX _ ?_; conv => whnf)
                refine hX _ ?_; conv => whnf
                refine ⟨fun q42 => ?_, fun q42 => ?_⟩
                · exfalso
                  (try simp (disch := omega) only [bg_w_id, Int.toNat_natCast, rw_land, sh_land, not_true_eq_false, kc0, kc1, kc2, kc3, kc4, kc5, kc6, kc7, kc8, kc9, kc10, kc11, kc12, kc13, kc14, kc15, kc16, kc17, kc18, kc19, kc20, kc21, kc22, kc23, kc24, kc25, kc26, kc27, kc28, kc29, kc30, kc31, kc32, kc33] at q42) <;> (exact absurd ((bt_w _ _).symm.trans q42) (by show ¬ bt (a : Int) (g : Int) = 0; omega))
                · try simp (disch := omega) only [bg_w_id, Int.toNat_natCast, rw_land, sh_land, not_true_eq_false, kc0, kc1, kc2, kc3, kc4, kc5, kc6, kc7, kc8, kc9, kc10, kc11, kc12, kc13, kc14, kc15, kc16, kc17, kc18, kc19, kc20, kc21, kc22, kc23, kc24, kc25, kc26, kc27, kc28, kc29, kc30, kc31, kc32, kc33] at q42
                  iterate 5 (refine hX _ ?_; conv => whnf)
                  refine hX _ ?_; conv => whnf
                  refine ⟨fun q51 => ?_, fun q51 => ?_⟩
                  · exfalso
                    (try simp (disch := omega) only [bg_w_id, Int.toNat_natCast, rw_land, sh_land, not_true_eq_false, kc0, kc1, kc2, kc3, kc4, kc5, kc6, kc7, kc8, kc9, kc10, kc11, kc12, kc13, kc14, kc15, kc16, kc17, kc18, kc19, kc20, kc21, kc22, kc23, kc24, kc25, kc26, kc27, kc28, kc29, kc30, kc31, kc32, kc33] at q51) <;> (exact absurd ((bt_w _ _).symm.trans q51) (by show ¬ bt (b : Int) (c : Int) = 0; omega))
                  · try simp (disch := omega) only [bg_w_id, Int.toNat_natCast, rw_land, sh_land, not_true_eq_false, kc0, kc1, kc2, kc3, kc4, kc5, kc6, kc7, kc8, kc9, kc10, kc11, kc12, kc13, kc14, kc15, kc16, kc17, kc18, kc19, kc20, kc21, kc22, kc23, kc24, kc25, kc26, kc27, kc28, kc29, kc30, kc31, kc32, kc33] at q51
                    iterate 5 (refine hX _ ?_; conv => whnf)
                    refine hX _ ?_; conv => whnf
                    try simp (disch := omega) only [bg_w_id, Int.toNat_natCast, rw_land, sh_land, not_true_eq_false]
                    have sg := fun (Rt : bg_R) => s_signedMinor d n a b (ah a g) (ah b c) ha hb hab m2 (by omega) B h2 (BR_fr hB (fun k k1 k2 => e1.1 k (by omega) (by omega) (by omega) (by omega))) Rt
                    rw [m1, m3] at sg
                    refine sg _ (fun h3 g1 => ?_)
                    rw [← em]
                    have k55 := g1 56 (by omega)
                    have k61 := g1 62 (by omega)
                    have k62 := g1 63 (by omega)
                    conv => whnf
                    iterate 5 (refine hX _ ?_; conv => whnf)
                    refine hX _ ?_; conv => whnf
                    try (simp (disch := omega) only [bg_w_id, Int.toNat_natCast, rw_land, sh_land, not_true_eq_false]; try conv => whnf)
                    refine ⟨by first | omega | (simp (disch := omega) only [bg_w_id, Int.toNat_natCast, rw_land, sh_land, not_true_eq_false]; omega), ?_⟩
                    iterate 2 (refine hX _ ?_; conv => whnf)
                    refine hX _ ?_; conv => whnf
                    try (simp (disch := omega) only [bg_w_id, Int.toNat_natCast, rw_land, sh_land, not_true_eq_false]; try conv => whnf)
                    refine ⟨by first | omega | (simp (disch := omega) only [bg_w_id, Int.toNat_natCast, rw_land, sh_land, not_true_eq_false]; omega), ?_⟩
                    iterate 4 (refine hX _ ?_; conv => whnf)
                    refine hX _ ?_; conv => whnf
                    try (simp (disch := omega) only [bg_w_id, Int.toNat_natCast, rw_land, sh_land, not_true_eq_false]; try conv => whnf)
                    refine ⟨by first | omega | (simp (disch := omega) only [bg_w_id, Int.toNat_natCast, rw_land, sh_land, not_true_eq_false]; omega), ?_⟩
                    iterate 2 (refine hX _ ?_; conv => whnf)
                    refine hX _ ?_; conv => whnf
                    try (simp (disch := omega) only [bg_w_id, Int.toNat_natCast, rw_land, sh_land, not_true_eq_false]; try conv => whnf)
                    refine ⟨by first | omega | (simp (disch := omega) only [bg_w_id, Int.toNat_natCast, rw_land, sh_land, not_true_eq_false]; omega), ?_⟩
                    iterate 8 (refine hX _ ?_; conv => whnf)
                    try simp only [kc0, kc1, kc2, kc3, kc4, kc5, kc6, kc7, kc8, kc9, kc10, kc11, kc12, kc13, kc14, kc15, kc16, kc17, kc18, kc19, kc20, kc21, kc22, kc23, kc24, kc25, kc26, kc27, kc28, kc29, kc30, kc31, kc32, kc33]
                    refine ih2 _ _ _ ⟨fun k k1 k2 k3 k4 => ?_, fun j hj => ?_⟩ ?_ (fun k hk => ?_)
                    · rw [bg_up_ne k1, bg_up_ne k3, bg_up_ne k2, g1 k k4]; exact e1.1 k k1 k2 k3 k4
                    · rw [bg_up_nj hj, bg_up_ne (by omega), bg_up_ne (by omega), k55]; exact e1.2 j hj
                    · rw [bg_up_self]
                      simp (disch := omega) only [bg_up_ne]
                      rw [k55, e2, sm_s c]
                      omega
                    · have ek := e3 k hk
                      have egg := e3 g hg
                      have ecc := e3 c hc
                      refine ⟨?_, ?_⟩
                      · rw [bg_up_ne (by omega), bg_up_ne (by omega), bg_up_at, k61]
                        by_cases x : k = g
                        · subst x
                          rw [if_pos rfl, egg.1, if_neg (by omega), if_pos rfl, if_neg (by omega), if_pos rfl, sm_s]
                        · rw [if_neg (by omega), ek.1, if_neg x, if_neg x]
                      · rw [bg_up_ne (by omega), bg_up_at]
                        by_cases x : k = c
                        · subst x
                          rw [if_pos rfl, bg_up_ne (by omega), k62, ecc.2, if_neg (by omega), if_pos (by omega), sm_s]
                        · rw [if_neg (by omega), bg_up_ne (by omega), k62, ek.2]
                          by_cases y : k < c
                          · rw [if_pos y, if_pos (by omega)]
                          · rw [if_neg y, if_neg (by omega)]
            · rw [if_neg c2] at ebc
              have := skip (by unfold mmF; rw [if_neg (fun x => c2 x.2)])
              iterate 2 (refine hX _ ?_; conv => whnf)
              refine hX _ ?_; conv => whnf
              refine ⟨fun q34 => ?_, fun q34 => ?_⟩
              · exfalso
                (try simp (disch := omega) only [bg_w_id, Int.toNat_natCast, rw_land, sh_land, not_true_eq_false, kc0, kc1, kc2, kc3, kc4, kc5, kc6, kc7, kc8, kc9, kc10, kc11, kc12, kc13, kc14, kc15, kc16, kc17, kc18, kc19, kc20, kc21, kc22, kc23, kc24, kc25, kc26, kc27, kc28, kc29, kc30, kc31, kc32, kc33] at q34) <;> (omega)
              · try simp (disch := omega) only [bg_w_id, Int.toNat_natCast, rw_land, sh_land, not_true_eq_false, kc0, kc1, kc2, kc3, kc4, kc5, kc6, kc7, kc8, kc9, kc10, kc11, kc12, kc13, kc14, kc15, kc16, kc17, kc18, kc19, kc20, kc21, kc22, kc23, kc24, kc25, kc26, kc27, kc28, kc29, kc30, kc31, kc32, kc33] at q34
                iterate 5 (refine hX _ ?_; conv => whnf)
                refine hX _ ?_; conv => whnf
                refine ⟨fun q42 => ?_, fun q42 => ?_⟩
                · exfalso
                  (try simp (disch := omega) only [bg_w_id, Int.toNat_natCast, rw_land, sh_land, not_true_eq_false, kc0, kc1, kc2, kc3, kc4, kc5, kc6, kc7, kc8, kc9, kc10, kc11, kc12, kc13, kc14, kc15, kc16, kc17, kc18, kc19, kc20, kc21, kc22, kc23, kc24, kc25, kc26, kc27, kc28, kc29, kc30, kc31, kc32, kc33] at q42) <;> (exact absurd ((bt_w _ _).symm.trans q42) (by show ¬ bt (a : Int) (g : Int) = 0; omega))
                · try simp (disch := omega) only [bg_w_id, Int.toNat_natCast, rw_land, sh_land, not_true_eq_false, kc0, kc1, kc2, kc3, kc4, kc5, kc6, kc7, kc8, kc9, kc10, kc11, kc12, kc13, kc14, kc15, kc16, kc17, kc18, kc19, kc20, kc21, kc22, kc23, kc24, kc25, kc26, kc27, kc28, kc29, kc30, kc31, kc32, kc33] at q42
                  iterate 5 (refine hX _ ?_; conv => whnf)
                  refine hX _ ?_; conv => whnf
                  refine ⟨fun q51 => ?_, fun q51 => ?_⟩
                  · try simp (disch := omega) only [bg_w_id, Int.toNat_natCast, rw_land, sh_land, not_true_eq_false, kc0, kc1, kc2, kc3, kc4, kc5, kc6, kc7, kc8, kc9, kc10, kc11, kc12, kc13, kc14, kc15, kc16, kc17, kc18, kc19, kc20, kc21, kc22, kc23, kc24, kc25, kc26, kc27, kc28, kc29, kc30, kc31, kc32, kc33] at q51
                    iterate 2 (refine hX _ ?_; conv => whnf)
                    exact this _ _
                  · exfalso
                    (try simp (disch := omega) only [bg_w_id, Int.toNat_natCast, rw_land, sh_land, not_true_eq_false, kc0, kc1, kc2, kc3, kc4, kc5, kc6, kc7, kc8, kc9, kc10, kc11, kc12, kc13, kc14, kc15, kc16, kc17, kc18, kc19, kc20, kc21, kc22, kc23, kc24, kc25, kc26, kc27, kc28, kc29, kc30, kc31, kc32, kc33] at q51) <;> (apply q51; show bg_w (bt (b : Int) (c : Int)) = 0; rw [bt_w]; exact ebc)
          · rw [if_neg c1] at ebg
            have := skip (by unfold mmF; rw [if_neg (fun x => c1 x.1)])
            iterate 2 (refine hX _ ?_; conv => whnf)
            refine hX _ ?_; conv => whnf
            refine ⟨fun q34 => ?_, fun q34 => ?_⟩
            · exfalso
              (try simp (disch := omega) only [bg_w_id, Int.toNat_natCast, rw_land, sh_land, not_true_eq_false, kc0, kc1, kc2, kc3, kc4, kc5, kc6, kc7, kc8, kc9, kc10, kc11, kc12, kc13, kc14, kc15, kc16, kc17, kc18, kc19, kc20, kc21, kc22, kc23, kc24, kc25, kc26, kc27, kc28, kc29, kc30, kc31, kc32, kc33] at q34) <;> (omega)
            · try simp (disch := omega) only [bg_w_id, Int.toNat_natCast, rw_land, sh_land, not_true_eq_false, kc0, kc1, kc2, kc3, kc4, kc5, kc6, kc7, kc8, kc9, kc10, kc11, kc12, kc13, kc14, kc15, kc16, kc17, kc18, kc19, kc20, kc21, kc22, kc23, kc24, kc25, kc26, kc27, kc28, kc29, kc30, kc31, kc32, kc33] at q34
              iterate 5 (refine hX _ ?_; conv => whnf)
              refine hX _ ?_; conv => whnf
              refine ⟨fun q42 => ?_, fun q42 => ?_⟩
              · try simp (disch := omega) only [bg_w_id, Int.toNat_natCast, rw_land, sh_land, not_true_eq_false, kc0, kc1, kc2, kc3, kc4, kc5, kc6, kc7, kc8, kc9, kc10, kc11, kc12, kc13, kc14, kc15, kc16, kc17, kc18, kc19, kc20, kc21, kc22, kc23, kc24, kc25, kc26, kc27, kc28, kc29, kc30, kc31, kc32, kc33] at q42
                iterate 2 (refine hX _ ?_; conv => whnf)
                exact this _ _
              · exfalso
                (try simp (disch := omega) only [bg_w_id, Int.toNat_natCast, rw_land, sh_land, not_true_eq_false, kc0, kc1, kc2, kc3, kc4, kc5, kc6, kc7, kc8, kc9, kc10, kc11, kc12, kc13, kc14, kc15, kc16, kc17, kc18, kc19, kc20, kc21, kc22, kc23, kc24, kc25, kc26, kc27, kc28, kc29, kc30, kc31, kc32, kc33] at q42) <;> (apply q42; show bg_w (bt (a : Int) (g : Int)) = 0; rw [bt_w]; exact ebg)
      iterate 2 (refine hX _ ?_; conv => whnf)
      refine hX _ ?_; conv => whnf
      refine ⟨fun q25 => ?_, fun q25 => ?_⟩
      · exfalso
        (try simp (disch := omega) only [bg_w_id, Int.toNat_natCast, rw_land, sh_land, not_true_eq_false, kc0, kc1, kc2, kc3, kc4, kc5, kc6, kc7, kc8, kc9, kc10, kc11, kc12, kc13, kc14, kc15, kc16, kc17, kc18, kc19, kc20, kc21, kc22, kc23, kc24, kc25, kc26, kc27, kc28, kc29, kc30, kc31, kc32, kc33] at q25) <;> (omega)
      · try simp (disch := omega) only [bg_w_id, Int.toNat_natCast, rw_land, sh_land, not_true_eq_false, kc0, kc1, kc2, kc3, kc4, kc5, kc6, kc7, kc8, kc9, kc10, kc11, kc12, kc13, kc14, kc15, kc16, kc17, kc18, kc19, kc20, kc21, kc22, kc23, kc24, kc25, kc26, kc27, kc28, kc29, kc30, kc31, kc32, kc33] at q25
        iterate 2 (refine hX _ ?_; conv => whnf)
        refine l2 0 (by omega) h' _ _ f1 (by rw [f2]; show _ = sm g (fun g => GP B a b g) + 0; omega) (fun k hk => ?_)
        have := f3 k hk
        refine ⟨?_, by rw [if_neg (by omega)]; exact this.2⟩
        rw [this.1]
        by_cases x : k < g
        · rw [if_pos x, if_pos x]
        · rw [if_neg x, if_neg x]
          split <;> rfl
  iterate 3 (refine hX _ ?_; conv => whnf)
  refine hX _ ?_; conv => whnf
  try simp (disch := omega) only [bg_w_id, Int.toNat_natCast, rw_land, sh_land, not_true_eq_false]
  refine s_fillL (d + 1) 62 4 (bg_SH n) _ _ rfl (by omega) _ (fun h1 f1 f2 => ?_)
  conv => whnf
  iterate 3 (refine hX _ ?_; conv => whnf)
  refine hX _ ?_; conv => whnf
  try simp (disch := omega) only [bg_w_id, Int.toNat_natCast, rw_land, sh_land, not_true_eq_false]
  refine s_fillL (d + 1) 63 4 (bg_SH n) _ _ rfl (by omega) _ (fun h2 g1 g2 => ?_)
  conv => whnf
  iterate 5 (refine hX _ ?_; conv => whnf)
  try simp only [kc0, kc1, kc2, kc3, kc4, kc5, kc6, kc7, kc8, kc9, kc10, kc11, kc12, kc13, kc14, kc15, kc16, kc17, kc18, kc19, kc20, kc21, kc22, kc23, kc24, kc25, kc26, kc27, kc28, kc29, kc30, kc31, kc32, kc33]
  refine l1 0 (by omega) _ _ _ _ ⟨fun k k1 k2 k3 k4 => ?_, fun j hj => ?_⟩ (bg_up_self _ _ _ _) (fun k hk => ?_)
  · rw [bg_up_ne k1, g1 k k3, f1 k k2]
  · rw [bg_up_nj hj, g1 56 (by omega), f1 56 (by omega)]
  · rw [bg_up_ne (by omega), bg_up_ne (by omega), if_neg (by omega), g1 62 (by omega), f2 k (by omega) (by omega), g2 k (by omega) (by omega)]
    exact ⟨rfl, rfl⟩
