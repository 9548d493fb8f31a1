theorem W_in {x : Int} (h : 0 ≤ x ∧ x < 4611686018427387904) : (Int64.ofInt x).toInt = x := bg_W_id (by omega) (by omega)
theorem Div_n {a b : Nat} (ha : a < 4611686018427387904) (hb : b < 4611686018427387904) : bg_Div a b = ((a / b : Nat) : Int) := by
  have hq := Nat.div_le_self a b
  have e : (a : Int) / (b : Int) = ((a / b : Nat) : Int) := rfl
  unfold bg_Div
  rw [Int64.toInt_div, W_in (by omega), W_in (by omega), Int.tdiv_eq_ediv_of_nonneg (by omega), e]
  generalize a / b = q at *
  rw [Int.bmod_eq_of_le (by simp <;> omega) (by simp <;> omega)]
theorem Rem_n {a b : Nat} (ha : a < 4611686018427387904) (hb : b < 4611686018427387904) : bg_Rem a b = ((a % b : Nat) : Int) := by
  have h1 := Nat.div_mul_le_self a b
  have h2 := Nat.div_add_mod a b
  have h3 := Nat.mod_le a b
  have e : (Int64.ofInt (a : Int) / Int64.ofInt (b : Int)).toInt = ((a / b : Nat) : Int) := Div_n ha hb
  unfold bg_Rem
  rw [Int64.toInt_sub, Int64.toInt_mul, e, W_in (by omega), W_in (by omega), show ((a / b : Nat) : Int) * (b : Int) = ((a / b * b : Nat) : Int) by rw [Int.natCast_mul]]
  rw [Nat.mul_comm b] at h2
  generalize a / b * b = m at *
  generalize a % b = r at *
  rw [Int.bmod_eq_of_le (n := (m : Int)) (by simp <;> omega) (by simp <;> omega), Int.bmod_eq_of_le (by simp <;> omega) (by simp <;> omega)]
  omega
theorem mod_half {x y : Nat} (hy : 0 < y) (h : y ≤ x) : 2 * (x % y) < x := by
  have h1 := Nat.mod_lt x hy
  have h2 := Nat.div_add_mod x y
  have h3 : 1 ≤ x / y := (Nat.one_le_div_iff hy).2 h
  have h4 : y * 1 ≤ y * (x / y) := Nat.mul_le_mul_left y h3
  omega
def lowA (p w : Nat) (part : Int) : Int := if part = 0 then ((p / Nat.gcd p w : Nat) : Int) else ((w / Nat.gcd p w : Nat) : Int)
theorem s_lowest (d n p w : Nat) (part : Int) (hpt : 0 ≤ part ∧ part ≤ 1) (hw : 0 < w ∧ w < 2 ^ 50) (hp : p < 2 ^ 50) (h : bg_G) (h4 : h 56 4 = w) (Rt : bg_R) (hR : Rt (some (.inr (.inl (lowA p w part)))) (bg_SH n, h)) : bg_Ca bg_MS (d + 1) 28 [vR 56, vL p, vI part] (bg_SH n, h) Rt := by
  have e50 : (2 : Nat) ^ 50 = 1125899906842624 := by decide
  rw [e50] at hw hp
  have gp : 0 < Nat.gcd p w := Nat.gcd_pos_of_pos_right p hw.1
  have gl : Nat.gcd p w ≤ w := Nat.gcd_le_right p hw.1
  refine bg_ca (cd := cd_X1_lowest) rfl rfl ?_
  intro X hX
  have fin : ∀ (i : Int) (j9 : Option bg_V), X (48, [oR 56, oL (p : Int), none, oI part, oL (Nat.gcd p w : Nat), none, oL 0, none, oI i, j9, none], [], (bg_SH n, h), (0, 0)) := by
    intro i j9
    have d1 : bg_Div (p : Int) (Nat.gcd p w : Nat) = ((p / Nat.gcd p w : Nat) : Int) := Div_n (by omega) (by omega)
    have d2 : bg_Div (w : Int) (Nat.gcd p w : Nat) = ((w / Nat.gcd p w : Nat) : Int) := Div_n (by omega) (by omega)
    unfold lowA at hR
    by_cases c : part = 0
    · rw [if_pos c] at hR
      iterate 3 (refine hX _ ?_; conv => whnf)
      refine hX _ ?_; conv => whnf
      refine ⟨fun q52 => ?_, fun q52 => ?_⟩
      · try simp (disch := omega) only [bg_w_id, Int.toNat_natCast, rw_land, sh_land, not_true_eq_false, h4, kc0, kc1, kc2, kc3, kc4, kc5, kc6, kc7, kc8, kc9, kc10, kc11, kc12, kc13, kc14, kc15, kc16, kc17, kc18, kc19, kc20, kc21, kc22, kc23, kc24, kc25, kc26, kc27, kc28, kc29, kc30, kc31, kc32, kc33] at q52
        refine hX _ ?_; conv => whnf
        refine hX _ ?_; conv => whnf
        refine ⟨fun q59 => ?_, fun q59 => ?_⟩
        · exfalso
          (try simp (disch := omega) only [bg_w_id, Int.toNat_natCast, rw_land, sh_land, not_true_eq_false, h4, kc0, kc1, kc2, kc3, kc4, kc5, kc6, kc7, kc8, kc9, kc10, kc11, kc12, kc13, kc14, kc15, kc16, kc17, kc18, kc19, kc20, kc21, kc22, kc23, kc24, kc25, kc26, kc27, kc28, kc29, kc30, kc31, kc32, kc33] at q59) <;> (omega)
        · try simp (disch := omega) only [bg_w_id, Int.toNat_natCast, rw_land, sh_land, not_true_eq_false, h4, kc0, kc1, kc2, kc3, kc4, kc5, kc6, kc7, kc8, kc9, kc10, kc11, kc12, kc13, kc14, kc15, kc16, kc17, kc18, kc19, kc20, kc21, kc22, kc23, kc24, kc25, kc26, kc27, kc28, kc29, kc30, kc31, kc32, kc33] at q59
          iterate 2 (refine hX _ ?_; conv => whnf)
          refine hX _ ?_; conv => whnf
          refine ⟨by rw [bg_W_id (by omega) (by omega)]; omega, ?_⟩
          rw [d1]
          refine hX _ ?_; conv => whnf
          refine hX _ ?_; conv => whnf
          exact hR
      · exfalso
        (try simp (disch := omega) only [bg_w_id, Int.toNat_natCast, rw_land, sh_land, not_true_eq_false, h4, kc0, kc1, kc2, kc3, kc4, kc5, kc6, kc7, kc8, kc9, kc10, kc11, kc12, kc13, kc14, kc15, kc16, kc17, kc18, kc19, kc20, kc21, kc22, kc23, kc24, kc25, kc26, kc27, kc28, kc29, kc30, kc31, kc32, kc33] at q52) <;> (rw [bg_Cmp_eq, bg_W_id (by omega) (by omega), bg_W_id (by omega) (by omega)] at q52; omega)
    · rw [if_neg c] at hR
      iterate 3 (refine hX _ ?_; conv => whnf)
      refine hX _ ?_; conv => whnf
      refine ⟨fun q52 => ?_, fun q52 => ?_⟩
      · try simp (disch := omega) only [bg_w_id, Int.toNat_natCast, rw_land, sh_land, not_true_eq_false, h4, kc0, kc1, kc2, kc3, kc4, kc5, kc6, kc7, kc8, kc9, kc10, kc11, kc12, kc13, kc14, kc15, kc16, kc17, kc18, kc19, kc20, kc21, kc22, kc23, kc24, kc25, kc26, kc27, kc28, kc29, kc30, kc31, kc32, kc33] at q52
        refine hX _ ?_; conv => whnf
        refine hX _ ?_; conv => whnf
        refine ⟨fun q59 => ?_, fun q59 => ?_⟩
        · try simp (disch := omega) only [bg_w_id, Int.toNat_natCast, rw_land, sh_land, not_true_eq_false, h4, kc0, kc1, kc2, kc3, kc4, kc5, kc6, kc7, kc8, kc9, kc10, kc11, kc12, kc13, kc14, kc15, kc16, kc17, kc18, kc19, kc20, kc21, kc22, kc23, kc24, kc25, kc26, kc27, kc28, kc29, kc30, kc31, kc32, kc33] at q59
          iterate 3 (refine hX _ ?_; conv => whnf)
          try simp only [kc0, kc1, kc2, kc3, kc4, kc5, kc6, kc7, kc8, kc9, kc10, kc11, kc12, kc13, kc14, kc15, kc16, kc17, kc18, kc19, kc20, kc21, kc22, kc23, kc24, kc25, kc26, kc27, kc28, kc29, kc30, kc31, kc32, kc33]
          refine hX _ ?_; conv => whnf
          refine ⟨by rw [bg_W_id (by omega) (by omega)]; omega, ?_⟩
          try rw [h4]
          rw [d2]
          refine hX _ ?_; conv => whnf
          exact hR
        · exfalso
          (try simp (disch := omega) only [bg_w_id, Int.toNat_natCast, rw_land, sh_land, not_true_eq_false, h4, kc0, kc1, kc2, kc3, kc4, kc5, kc6, kc7, kc8, kc9, kc10, kc11, kc12, kc13, kc14, kc15, kc16, kc17, kc18, kc19, kc20, kc21, kc22, kc23, kc24, kc25, kc26, kc27, kc28, kc29, kc30, kc31, kc32, kc33] at q59) <;> (omega)
      · exfalso
        (try simp (disch := omega) only [bg_w_id, Int.toNat_natCast, rw_land, sh_land, not_true_eq_false, h4, kc0, kc1, kc2, kc3, kc4, kc5, kc6, kc7, kc8, kc9, kc10, kc11, kc12, kc13, kc14, kc15, kc16, kc17, kc18, kc19, kc20, kc21, kc22, kc23, kc24, kc25, kc26, kc27, kc28, kc29, kc30, kc31, kc32, kc33] at q52) <;> (rw [bg_Cmp_eq, bg_W_id (by omega) (by omega), bg_W_id (by omega) (by omega)] at q52; omega)
  have l1 : ∀ i : Nat, i ≤ 100 → ∀ (a b : Nat) (j9 : Option bg_V), Nat.gcd a b = Nat.gcd p w → a < 1125899906842624 → b < 2 ^ (50 - i / 2) → (b ≠ 0 → a % b < 2 ^ (50 - (i + 1) / 2)) → X (12, [oR 56, oL (p : Int), none, oI part, oL (a : Int), none, oL (b : Int), none, oI (i : Int), j9, none], [], (bg_SH n, h), (0, 0)) := by
    refine lp_up 100 _ ?_ (fun i hi ih => ?_)
    · intro a b j9 hg ha hb hm
      have b0 : b = 0 := by
        have : b < 2 ^ 0 := hb
        omega
      subst b0
      rw [Nat.gcd_zero_right] at hg
      subst hg
      iterate 2 (refine hX _ ?_; conv => whnf)
      refine hX _ ?_; conv => whnf
      refine ⟨fun q17 => ?_, fun q17 => ?_⟩
      · exfalso
        (try simp (disch := omega) only [bg_w_id, Int.toNat_natCast, rw_land, sh_land, not_true_eq_false, kc0, kc1, kc2, kc3, kc4, kc5, kc6, kc7, kc8, kc9, kc10, kc11, kc12, kc13, kc14, kc15, kc16, kc17, kc18, kc19, kc20, kc21, kc22, kc23, kc24, kc25, kc26, kc27, kc28, kc29, kc30, kc31, kc32, kc33] at q17) <;> (omega)
      · try simp (disch := omega) only [bg_w_id, Int.toNat_natCast, rw_land, sh_land, not_true_eq_false, kc0, kc1, kc2, kc3, kc4, kc5, kc6, kc7, kc8, kc9, kc10, kc11, kc12, kc13, kc14, kc15, kc16, kc17, kc18, kc19, kc20, kc21, kc22, kc23, kc24, kc25, kc26, kc27, kc28, kc29, kc30, kc31, kc32, kc33] at q17
        iterate 3 (refine hX _ ?_; conv => whnf)
        refine hX _ ?_; conv => whnf
        refine ⟨fun q24 => ?_, fun q24 => ?_⟩
        · try simp (disch := omega) only [bg_w_id, Int.toNat_natCast, rw_land, sh_land, not_true_eq_false, kc0, kc1, kc2, kc3, kc4, kc5, kc6, kc7, kc8, kc9, kc10, kc11, kc12, kc13, kc14, kc15, kc16, kc17, kc18, kc19, kc20, kc21, kc22, kc23, kc24, kc25, kc26, kc27, kc28, kc29, kc30, kc31, kc32, kc33] at q24
          exact fin _ _
        · exfalso
          (try simp (disch := omega) only [bg_w_id, Int.toNat_natCast, rw_land, sh_land, not_true_eq_false, kc0, kc1, kc2, kc3, kc4, kc5, kc6, kc7, kc8, kc9, kc10, kc11, kc12, kc13, kc14, kc15, kc16, kc17, kc18, kc19, kc20, kc21, kc22, kc23, kc24, kc25, kc26, kc27, kc28, kc29, kc30, kc31, kc32, kc33] at q24) <;> ((try rw [bg_Cmp_eq] at q24); (try rw [bg_W_id (by omega) (by omega)] at q24); (try rw [bg_W_id (by omega) (by omega)] at q24); omega)
    · intro a b j9 hg ha hb hm
      have bl : b < 1125899906842624 := Nat.lt_of_lt_of_le hb (by rw [← e50]; exact Nat.pow_le_pow_right (by decide) (by omega))
      by_cases b0 : b = 0
      · subst b0
        rw [Nat.gcd_zero_right] at hg
        subst hg
        iterate 2 (refine hX _ ?_; conv => whnf)
        refine hX _ ?_; conv => whnf
        refine ⟨fun q17 => ?_, fun q17 => ?_⟩
        · exfalso
          (try simp (disch := omega) only [bg_w_id, Int.toNat_natCast, rw_land, sh_land, not_true_eq_false, kc0, kc1, kc2, kc3, kc4, kc5, kc6, kc7, kc8, kc9, kc10, kc11, kc12, kc13, kc14, kc15, kc16, kc17, kc18, kc19, kc20, kc21, kc22, kc23, kc24, kc25, kc26, kc27, kc28, kc29, kc30, kc31, kc32, kc33] at q17) <;> (omega)
        · try simp (disch := omega) only [bg_w_id, Int.toNat_natCast, rw_land, sh_land, not_true_eq_false, kc0, kc1, kc2, kc3, kc4, kc5, kc6, kc7, kc8, kc9, kc10, kc11, kc12, kc13, kc14, kc15, kc16, kc17, kc18, kc19, kc20, kc21, kc22, kc23, kc24, kc25, kc26, kc27, kc28, kc29, kc30, kc31, kc32, kc33] at q17
          iterate 3 (refine hX _ ?_; conv => whnf)
          refine hX _ ?_; conv => whnf
          refine ⟨fun q24 => ?_, fun q24 => ?_⟩
          · try simp (disch := omega) only [bg_w_id, Int.toNat_natCast, rw_land, sh_land, not_true_eq_false, kc0, kc1, kc2, kc3, kc4, kc5, kc6, kc7, kc8, kc9, kc10, kc11, kc12, kc13, kc14, kc15, kc16, kc17, kc18, kc19, kc20, kc21, kc22, kc23, kc24, kc25, kc26, kc27, kc28, kc29, kc30, kc31, kc32, kc33] at q24
            exact fin _ _
          · exfalso
            (try simp (disch := omega) only [bg_w_id, Int.toNat_natCast, rw_land, sh_land, not_true_eq_false, kc0, kc1, kc2, kc3, kc4, kc5, kc6, kc7, kc8, kc9, kc10, kc11, kc12, kc13, kc14, kc15, kc16, kc17, kc18, kc19, kc20, kc21, kc22, kc23, kc24, kc25, kc26, kc27, kc28, kc29, kc30, kc31, kc32, kc33] at q24) <;> ((try rw [bg_Cmp_eq] at q24); (try rw [bg_W_id (by omega) (by omega)] at q24); (try rw [bg_W_id (by omega) (by omega)] at q24); omega)
      · have er : bg_Rem (a : Int) (b : Int) = ((a % b : Nat) : Int) := Rem_n (by omega) (by omega)
        have ml := Nat.mod_lt a (Nat.pos_of_ne_zero b0)
        have hm := hm b0
        have hg2 : Nat.gcd b (a % b) = Nat.gcd p w := by rw [Nat.gcd_comm b, ← Nat.gcd_rec, Nat.gcd_comm b a]; exact hg
        have h2 : a % b ≠ 0 → b % (a % b) < 2 ^ (50 - (i + 1 + 1) / 2) := fun hz => by
          have := mod_half (x := b) (y := a % b) (Nat.pos_of_ne_zero hz) (by omega)
          by_cases q : i / 2 < 50
          · have e : 2 ^ (50 - i / 2) = 2 * 2 ^ (50 - (i + 1 + 1) / 2) := by
              rw [show 50 - i / 2 = (50 - (i + 1 + 1) / 2) + 1 by omega, Nat.pow_succ]
              omega
            omega
          · have : 2 ^ (50 - i / 2) = 1 := by rw [show 50 - i / 2 = 0 by omega]
            omega
        have nx := ih b (a % b) (oL ((a % b : Nat) : Int)) hg2 bl hm h2
        iterate 2 (refine hX _ ?_; conv => whnf)
        refine hX _ ?_; conv => whnf
        refine ⟨fun q17 => ?_, fun q17 => ?_⟩
        · exfalso
          (try simp (disch := omega) only [bg_w_id, Int.toNat_natCast, rw_land, sh_land, not_true_eq_false, kc0, kc1, kc2, kc3, kc4, kc5, kc6, kc7, kc8, kc9, kc10, kc11, kc12, kc13, kc14, kc15, kc16, kc17, kc18, kc19, kc20, kc21, kc22, kc23, kc24, kc25, kc26, kc27, kc28, kc29, kc30, kc31, kc32, kc33] at q17) <;> (omega)
        · try simp (disch := omega) only [bg_w_id, Int.toNat_natCast, rw_land, sh_land, not_true_eq_false, kc0, kc1, kc2, kc3, kc4, kc5, kc6, kc7, kc8, kc9, kc10, kc11, kc12, kc13, kc14, kc15, kc16, kc17, kc18, kc19, kc20, kc21, kc22, kc23, kc24, kc25, kc26, kc27, kc28, kc29, kc30, kc31, kc32, kc33] at q17
          iterate 3 (refine hX _ ?_; conv => whnf)
          refine hX _ ?_; conv => whnf
          refine ⟨fun q24 => ?_, fun q24 => ?_⟩
          · exfalso
            (try simp (disch := omega) only [bg_w_id, Int.toNat_natCast, rw_land, sh_land, not_true_eq_false, kc0, kc1, kc2, kc3, kc4, kc5, kc6, kc7, kc8, kc9, kc10, kc11, kc12, kc13, kc14, kc15, kc16, kc17, kc18, kc19, kc20, kc21, kc22, kc23, kc24, kc25, kc26, kc27, kc28, kc29, kc30, kc31, kc32, kc33] at q24) <;> (rw [bg_Cmp_eq, bg_W_id (by omega) (by omega), bg_W_id (by omega) (by omega)] at q24; omega)
          · try simp (disch := omega) only [bg_w_id, Int.toNat_natCast, rw_land, sh_land, not_true_eq_false, kc0, kc1, kc2, kc3, kc4, kc5, kc6, kc7, kc8, kc9, kc10, kc11, kc12, kc13, kc14, kc15, kc16, kc17, kc18, kc19, kc20, kc21, kc22, kc23, kc24, kc25, kc26, kc27, kc28, kc29, kc30, kc31, kc32, kc33] at q24
            iterate 2 (refine hX _ ?_; conv => whnf)
            refine hX _ ?_; conv => whnf
            refine ⟨by rw [bg_W_id (by omega) (by omega)]; omega, ?_⟩
            rw [er]
            iterate 7 (refine hX _ ?_; conv => whnf)
            exact nx
  iterate 7 (refine hX _ ?_; conv => whnf)
  try simp only [kc0, kc1, kc2, kc3, kc4, kc5, kc6, kc7, kc8, kc9, kc10, kc11, kc12, kc13, kc14, kc15, kc16, kc17, kc18, kc19, kc20, kc21, kc22, kc23, kc24, kc25, kc26, kc27, kc28, kc29, kc30, kc31, kc32, kc33]
  have := l1 0 (by omega) p w none rfl hp (by rw [show 50 - 0 / 2 = 50 by omega, e50]; exact hw.2) (fun _ => by
    rw [show 50 - (0 + 1) / 2 = 50 by omega, e50]
    have := Nat.mod_lt p hw.1
    omega)
  first | exact this | (rw [h4]; exact this)
/-- the numbers of the game in range, 0 outside -/
def b4 (h : bg_G) (g c : Nat) : Int := if g < 4 ∧ c < 4 then bgM h g c else 0
theorem b4_G {h : bg_G} (hI : INV h) : BG (b4 h) := fun g c => by
  unfold b4
  by_cases x : g < 4 ∧ c < 4
  · rw [if_pos x]
    exact bgM_rg (inv_REL hI).2.1 (inv_lot hI).1 x.2
  · rw [if_neg x]
    omega
theorem GME_BR {h h' : bg_G} (hI : INV h) (hg : GME h h') : BR h' (b4 h) := fun g c h1 h2 => by
  have := b4_G hI g c
  refine ⟨?_, this⟩
  rw [hg.2 g c h1 h2]
  unfold b4
  rw [if_pos ⟨h1, h2⟩]
theorem tS_eq {h : bg_G} (hI : INV h) : tSet (fun k => h 54 k) = tSet (fun k => h 122 k) ∧ tSet (fun k => h 55 k) = tSet (fun k => h 123 k) := by
  have lo := lot_rg hI
  unfold tSet
  have k1 : ∀ m, m ≤ 4 → stN m (fun k => decide (0 ≤ h 54 k)) = stN m (fun k => decide (0 ≤ h 122 k)) := by
    intro m
    induction m with
    | zero => intro _; rfl
    | succ m ih => intro hm; rw [stN_s, stN_s, ih (by omega), (lo m (by omega)).2.2.1.1]
  have k2 : ∀ m, m ≤ 4 → stN m (fun k => decide (0 ≤ h 55 k)) = stN m (fun k => decide (0 ≤ h 123 k)) := by
    intro m
    induction m with
    | zero => intro _; rfl
    | succ m ih => intro hm; rw [stN_s, stN_s, ih (by omega), (lo m (by omega)).2.2.1.2]
  exact ⟨k1 4 (by omega), k2 4 (by omega)⟩
def tgM (h : bg_G) : Nat := tSet (fun k => h 122 k)
def tcM (h : bg_G) : Nat := tSet (fun k => h 123 k)
theorem s_playC (d n : Nat) (h : bg_G) (hI : INV h) (Rt : bg_R) (hR1 : ∀ k a b, FST (b4 h) (tgM h) (tcM h) k a b → ∀ h' : bg_G, (∀ k, ¬ (56 ≤ k ∧ k ≤ 67) → h' k = h k) → MIX h' (b4 h) a b → h' 56 5 = vlF (b4 h) a b → Rt (some (.inl 1)) (bg_SH n, h')) (hR0 : (∀ k a b, rg3 k a b → ¬ SUP (b4 h) (tgM h) (tcM h) k a b) → ∀ h' : bg_G, (∀ k, ¬ (56 ≤ k ∧ k ≤ 67) → h' k = h k) → Rt (some (.inl 0)) (bg_SH n, h')) : bg_Ca bg_MS (d + 6) 110 [vR 2] (bg_SH n, h) Rt := by
  have lo := lot_rg hI
  have wl : (wsM h).length ≤ 400 := (inv_tbl hI).2.1
  have te := tS_eq hI
  have g16 := tSet_lt (fun k => h 122 k)
  have c16 := tSet_lt (fun k => h 123 k)
  refine bg_ca (cd := cd_X8_playGame) rfl rfl ?_
  intro X hX
  have go : ∀ h1 : bg_G, GME h h1 → bg_Ca bg_MS (d + 5) 16 [vR 56, vI (tgM h : Nat), vI (tcM h : Nat)] (bg_SH n, h1) (fun r H' => X (25, [oR 2], bg_push r [], H', (0, 0))) := by
    intro h1 gm
    refine s_findSupport d n (tgM h) (tcM h) g16 c16 (b4 h) (b4_G hI) h1 (GME_BR hI gm) _ (fun k a b hf h2 f2 hm hv => ?_) (fun hno h2 f2 => ?_)
    · refine hX _ ?_; conv => whnf
      exact ⟨by omega, hR1 k a b hf h2 (fun k hk => by rw [f2 k (by omega) (by omega) (by omega) (by omega)]; exact gm.1 k (by omega)) hm hv⟩
    · refine hX _ ?_; conv => whnf
      exact ⟨by omega, hR0 hno h2 (fun k hk => by rw [f2 k (by omega) (by omega) (by omega) (by omega)]; exact gm.1 k (by omega))⟩
  refine hX _ ?_; conv => whnf
  refine hX _ ?_; conv => whnf
  try simp (disch := omega) only [bg_w_id, Int.toNat_natCast, rw_land, sh_land, not_true_eq_false]
  refine s_setUp (d + 1) n h hI _ (fun h1 gm => ?_)
  have e53 : h1 54 = h 54 := gm.1 54 (by omega)
  have e54 : h1 55 = h 55 := gm.1 55 (by omega)
  conv => whnf
  iterate 4 (refine hX _ ?_; conv => whnf)
  refine hX _ ?_; conv => whnf
  try simp (disch := omega) only [bg_w_id, Int.toNat_natCast, rw_land, sh_land, not_true_eq_false]
  refine s_toldG (d + 3) n h1 (fun k hk => by rw [e53]; exact (lo k hk).1) _ ?_
  rw [e53, te.1, show tSet (fun k => h 122 k) = tgM h from rfl]
  conv => whnf
  iterate 2 (refine hX _ ?_; conv => whnf)
  refine hX _ ?_; conv => whnf
  try simp (disch := omega) only [bg_w_id, Int.toNat_natCast, rw_land, sh_land, not_true_eq_false]
  refine s_toldK (d + 3) n h1 (fun k hk => by rw [e54]; have := (lo k hk).2.1; omega) _ ?_
  rw [e54, te.2, show tSet (fun k => h 123 k) = tcM h from rfl]
  conv => whnf
  refine hX _ ?_; conv => whnf
  exact go h1 gm
/-- what a part of the whole is, in lowest terms -/
theorem mix_w {B : Nat → Nat → Int} (hG : BG B) {a b : Nat} (hm : mixP B a b) : ∃ w : Nat, sgW B a b * WW B a b = w ∧ 0 < w ∧ w < 2 ^ 50 := by
  have x : -96000000000 ≤ WW B a b ∧ WW B a b ≤ 96000000000 := WW_rg hG a b 4 (by omega)
  have h0 := hm.1
  have e50 : (2 : Nat) ^ 50 = 1125899906842624 := by decide
  have key : 0 < sgW B a b * WW B a b ∧ sgW B a b * WW B a b ≤ 96000000000 := by
    by_cases c : WW B a b < 0
    · rw [show sgW B a b = -1 by unfold sgW; rw [if_pos c]]
      omega
    · rw [show sgW B a b = 1 by unfold sgW; rw [if_neg c]]
      omega
  exact ⟨(sgW B a b * WW B a b).toNat, by omega, by omega, by omega⟩
theorem mm_out {B : Nat → Nat → Int} {a b g c : Nat} (h : ¬ (a.testBit g = true ∧ b.testBit c = true)) : mmF B a b g c = 0 := by unfold mmF; rw [if_neg h]
theorem GP_out {B : Nat → Nat → Int} {a b g : Nat} (h : ¬ a.testBit g = true) : GP B a b g = 0 := by
  unfold GP
  rw [sm_congr (g := fun _ => 0) (fun c _ => mm_out (fun x => h x.1)), sm_zero]
theorem CP_out {B : Nat → Nat → Int} {a b c : Nat} (h : ¬ b.testBit c = true) : CP B a b c = 0 := by
  unfold CP
  rw [sm_congr (g := fun _ => 0) (fun g _ => mm_out (fun x => h x.2)), sm_zero]
theorem mix_p {B : Nat → Nat → Int} (hG : BG B) {a b : Nat} (hm : mixP B a b) {k : Nat} (hk : k < 4) : (∃ p : Nat, sgW B a b * GP B a b k = p ∧ p < 2 ^ 50) ∧ ∃ p : Nat, sgW B a b * CP B a b k = p ∧ p < 2 ^ 50 := by
  have e50 : (2 : Nat) ^ 50 = 1125899906842624 := by decide
  have r := sgP_rg hG a b k
  have g0 : 0 ≤ sgW B a b * GP B a b k := by
    by_cases x : a.testBit k = true
    · have : 0 < sgW B a b * GP B a b k := hm.2.1 k hk x
      omega
    · rw [GP_out x, Int.mul_zero]
      omega
  have c0 : 0 ≤ sgW B a b * CP B a b k := by
    by_cases x : b.testBit k = true
    · have : 0 < sgW B a b * CP B a b k := hm.2.2 k hk x
      omega
    · rw [CP_out x, Int.mul_zero]
      omega
  exact ⟨⟨(sgW B a b * GP B a b k).toNat, by omega, by omega⟩, ⟨(sgW B a b * CP B a b k).toNat, by omega, by omega⟩⟩
theorem mix_v {B : Nat → Nat → Int} (hG : BG B) {a b : Nat} (hm : mixP B a b) : ∃ p : Nat, vlF B a b = p ∧ p < 2 ^ 50 := by
  have e50 : (2 : Nat) ^ 50 = 1125899906842624 := by decide
  have r : -96000000000000 ≤ vlF B a b ∧ vlF B a b ≤ 96000000000000 := mBy_rg hG a b (mb a 0)
  have v0 : 0 ≤ vlF B a b := by
    unfold vlF mBy
    have := sm_rg (n := 4) (f := fun c => sgW B a b * CP B a b c * B (mb a 0) c) (B := 24000000000000) (fun c hc => by
      obtain ⟨q, hq, _⟩ := (mix_p hG hm hc).2
      have x := hG (mb a 0) c
      have y := (sgP_rg hG a b c).2
      have := mul_rg (A := 24000000000) (B := 1000) (a := sgW B a b * CP B a b c) (by omega) x
      show 0 ≤ sgW B a b * CP B a b c * B (mb a 0) c ∧ sgW B a b * CP B a b c * B (mb a 0) c ≤ 24000000000000
      omega)
    exact this.1
  exact ⟨(vlF B a b).toNat, by omega, by omega⟩
def lowI (p w part : Int) : Int := lowA p.toNat w.toNat part
theorem s_cvalue (d n : Nat) (part : Int) (hp : i32 part) (h : bg_G) (hI : INV h) (Rt : bg_R) (hR1 : (0 ≤ part ∧ part ≤ 1) → ∀ k a b, FST (b4 h) (tgM h) (tcM h) k a b → ∀ h' : bg_G, (∀ k, ¬ (56 ≤ k ∧ k ≤ 67) → h' k = h k) → Rt (some (.inr (.inl (lowI (vlF (b4 h) a b) (sgW (b4 h) a b * WW (b4 h) a b) part)))) (bg_SH n, h')) (hR2 : (0 ≤ part ∧ part ≤ 1) → (∀ k a b, rg3 k a b → ¬ SUP (b4 h) (tgM h) (tcM h) k a b) → ∀ h' : bg_G, (∀ k, ¬ (56 ≤ k ∧ k ≤ 67) → h' k = h k) → Rt (some (.inr (.inl (-2)))) (bg_SH n, h')) (hR0 : ¬ (0 ≤ part ∧ part ≤ 1) → Rt (some (.inr (.inl (-1)))) (bg_SH n, h)) : bg_Ca bg_MS (d + 7) 100 [vR 2, vI part] (bg_SH n, h) Rt := by
  refine bg_ca (cd := cd_X8_value) rfl rfl ?_
  intro X hX
  by_cases c : 0 ≤ part ∧ part ≤ 1
  · have go : bg_Ca bg_MS (d + 6) 110 [vR 2] (bg_SH n, h) (fun r H' => X (17, [oR 2, oI part], bg_push r [], H', (0, 0))) := by
      refine s_playC d n h hI _ (fun k a b hf h' f hm hv => ?_) (fun hno h' f => ?_)
      · obtain ⟨w, w1, w2, w3⟩ := mix_w (b4_G hI) hf.2.1.2.2.1
        obtain ⟨p, p1, p2⟩ := mix_v (b4_G hI) hf.2.1.2.2.1
        have hR1 := hR1 c k a b hf h' f
        rw [p1, w1] at hR1
        have e5 : h' 56 5 = (p : Int) := hv.trans p1
        have e4 : h' 56 4 = (w : Int) := hm.1.trans w1
        refine hX _ ?_; conv => whnf
        refine ⟨fun q17 => ?_, fun q17 => ?_⟩
        · try simp (disch := omega) only [bg_w_id, Int.toNat_natCast, rw_land, sh_land, not_true_eq_false, e5, kc0, kc1, kc2, kc3, kc4, kc5, kc6, kc7, kc8, kc9, kc10, kc11, kc12, kc13, kc14, kc15, kc16, kc17, kc18, kc19, kc20, kc21, kc22, kc23, kc24, kc25, kc26, kc27, kc28, kc29, kc30, kc31, kc32, kc33] at q17
          iterate 6 (refine hX _ ?_; conv => whnf)
          try simp only [kc0, kc1, kc2, kc3, kc4, kc5, kc6, kc7, kc8, kc9, kc10, kc11, kc12, kc13, kc14, kc15, kc16, kc17, kc18, kc19, kc20, kc21, kc22, kc23, kc24, kc25, kc26, kc27, kc28, kc29, kc30, kc31, kc32, kc33]
          refine hX _ ?_; conv => whnf
          try simp (disch := omega) only [bg_w_id, Int.toNat_natCast, rw_land, sh_land, not_true_eq_false, e5]
          try rw [e5]
          refine s_lowest (d + 5) n p w part c ⟨w2, w3⟩ p2 h' e4 _ ?_
          conv => whnf
          refine hX _ ?_; conv => whnf
          exact hR1
        · exfalso
          (try simp (disch := omega) only [bg_w_id, Int.toNat_natCast, rw_land, sh_land, not_true_eq_false, e5, kc0, kc1, kc2, kc3, kc4, kc5, kc6, kc7, kc8, kc9, kc10, kc11, kc12, kc13, kc14, kc15, kc16, kc17, kc18, kc19, kc20, kc21, kc22, kc23, kc24, kc25, kc26, kc27, kc28, kc29, kc30, kc31, kc32, kc33] at q17) <;> (omega)
      · refine hX _ ?_; conv => whnf
        refine ⟨fun q17 => ?_, fun q17 => ?_⟩
        · exfalso
          (try simp (disch := omega) only [bg_w_id, Int.toNat_natCast, rw_land, sh_land, not_true_eq_false, kc0, kc1, kc2, kc3, kc4, kc5, kc6, kc7, kc8, kc9, kc10, kc11, kc12, kc13, kc14, kc15, kc16, kc17, kc18, kc19, kc20, kc21, kc22, kc23, kc24, kc25, kc26, kc27, kc28, kc29, kc30, kc31, kc32, kc33] at q17) <;> (omega)
        · try simp (disch := omega) only [bg_w_id, Int.toNat_natCast, rw_land, sh_land, not_true_eq_false, kc0, kc1, kc2, kc3, kc4, kc5, kc6, kc7, kc8, kc9, kc10, kc11, kc12, kc13, kc14, kc15, kc16, kc17, kc18, kc19, kc20, kc21, kc22, kc23, kc24, kc25, kc26, kc27, kc28, kc29, kc30, kc31, kc32, kc33] at q17
          refine hX _ ?_; conv => whnf
          refine hX _ ?_; conv => whnf
          exact hR2 c hno h' f
    refine hX _ ?_; conv => whnf
    refine hX _ ?_; conv => whnf
    refine ⟨fun q1 => ?_, fun q1 => ?_⟩
    · exfalso
      (try simp (disch := omega) only [bg_w_id, Int.toNat_natCast, rw_land, sh_land, not_true_eq_false, kc0, kc1, kc2, kc3, kc4, kc5, kc6, kc7, kc8, kc9, kc10, kc11, kc12, kc13, kc14, kc15, kc16, kc17, kc18, kc19, kc20, kc21, kc22, kc23, kc24, kc25, kc26, kc27, kc28, kc29, kc30, kc31, kc32, kc33] at q1) <;> (omega)
    · try simp (disch := omega) only [bg_w_id, Int.toNat_natCast, rw_land, sh_land, not_true_eq_false, kc0, kc1, kc2, kc3, kc4, kc5, kc6, kc7, kc8, kc9, kc10, kc11, kc12, kc13, kc14, kc15, kc16, kc17, kc18, kc19, kc20, kc21, kc22, kc23, kc24, kc25, kc26, kc27, kc28, kc29, kc30, kc31, kc32, kc33] at q1
      iterate 2 (refine hX _ ?_; conv => whnf)
      refine hX _ ?_; conv => whnf
      refine ⟨fun q6 => ?_, fun q6 => ?_⟩
      · try simp (disch := omega) only [bg_w_id, Int.toNat_natCast, rw_land, sh_land, not_true_eq_false, kc0, kc1, kc2, kc3, kc4, kc5, kc6, kc7, kc8, kc9, kc10, kc11, kc12, kc13, kc14, kc15, kc16, kc17, kc18, kc19, kc20, kc21, kc22, kc23, kc24, kc25, kc26, kc27, kc28, kc29, kc30, kc31, kc32, kc33] at q6
        refine hX _ ?_; conv => whnf
        refine hX _ ?_; conv => whnf
        exact go
      · exfalso
        (try simp (disch := omega) only [bg_w_id, Int.toNat_natCast, rw_land, sh_land, not_true_eq_false, kc0, kc1, kc2, kc3, kc4, kc5, kc6, kc7, kc8, kc9, kc10, kc11, kc12, kc13, kc14, kc15, kc16, kc17, kc18, kc19, kc20, kc21, kc22, kc23, kc24, kc25, kc26, kc27, kc28, kc29, kc30, kc31, kc32, kc33] at q6) <;> (omega)
  · refine hX _ ?_; conv => whnf
    refine hX _ ?_; conv => whnf
    refine ⟨fun q1 => ?_, fun q1 => ?_⟩
    · try simp (disch := omega) only [bg_w_id, Int.toNat_natCast, rw_land, sh_land, not_true_eq_false, kc0, kc1, kc2, kc3, kc4, kc5, kc6, kc7, kc8, kc9, kc10, kc11, kc12, kc13, kc14, kc15, kc16, kc17, kc18, kc19, kc20, kc21, kc22, kc23, kc24, kc25, kc26, kc27, kc28, kc29, kc30, kc31, kc32, kc33] at q1
      refine hX _ ?_; conv => whnf
      refine hX _ ?_; conv => whnf
      exact hR0 c
    · try simp (disch := omega) only [bg_w_id, Int.toNat_natCast, rw_land, sh_land, not_true_eq_false, kc0, kc1, kc2, kc3, kc4, kc5, kc6, kc7, kc8, kc9, kc10, kc11, kc12, kc13, kc14, kc15, kc16, kc17, kc18, kc19, kc20, kc21, kc22, kc23, kc24, kc25, kc26, kc27, kc28, kc29, kc30, kc31, kc32, kc33] at q1
      iterate 2 (refine hX _ ?_; conv => whnf)
      refine hX _ ?_; conv => whnf
      refine ⟨fun q6 => ?_, fun q6 => ?_⟩
      · try simp (disch := omega) only [bg_w_id, Int.toNat_natCast, rw_land, sh_land, not_true_eq_false, kc0, kc1, kc2, kc3, kc4, kc5, kc6, kc7, kc8, kc9, kc10, kc11, kc12, kc13, kc14, kc15, kc16, kc17, kc18, kc19, kc20, kc21, kc22, kc23, kc24, kc25, kc26, kc27, kc28, kc29, kc30, kc31, kc32, kc33] at q6
        exfalso; omega
      · try simp (disch := omega) only [bg_w_id, Int.toNat_natCast, rw_land, sh_land, not_true_eq_false, kc0, kc1, kc2, kc3, kc4, kc5, kc6, kc7, kc8, kc9, kc10, kc11, kc12, kc13, kc14, kc15, kc16, kc17, kc18, kc19, kc20, kc21, kc22, kc23, kc24, kc25, kc26, kc27, kc28, kc29, kc30, kc31, kc32, kc33] at q6
        refine hX _ ?_; conv => whnf
        refine hX _ ?_; conv => whnf
        exact hR0 c
theorem s_cchance (d n : Nat) (sd k part : Int) (hs : i32 sd) (hk : i32 k) (hp : i32 part) (h : bg_G) (hI : INV h) (Rt : bg_R) (hR1 : ((0 ≤ sd ∧ sd ≤ 1) ∧ (0 ≤ k ∧ k ≤ 3) ∧ (0 ≤ part ∧ part ≤ 1) ∧ 0 ≤ (if sd = 0 then h 122 k else h 123 k)) → ∀ q a b, FST (b4 h) (tgM h) (tcM h) q a b → ∀ h' : bg_G, (∀ k, ¬ (56 ≤ k ∧ k ≤ 67) → h' k = h k) → Rt (some (.inr (.inl (lowI (sgW (b4 h) a b * (if sd = 0 then GP (b4 h) a b k.toNat else CP (b4 h) a b k.toNat)) (sgW (b4 h) a b * WW (b4 h) a b) part)))) (bg_SH n, h')) (hR2 : ((0 ≤ sd ∧ sd ≤ 1) ∧ (0 ≤ k ∧ k ≤ 3) ∧ (0 ≤ part ∧ part ≤ 1) ∧ 0 ≤ (if sd = 0 then h 122 k else h 123 k)) → (∀ k a b, rg3 k a b → ¬ SUP (b4 h) (tgM h) (tcM h) k a b) → ∀ h' : bg_G, (∀ k, ¬ (56 ≤ k ∧ k ≤ 67) → h' k = h k) → Rt (some (.inr (.inl (-2)))) (bg_SH n, h')) (hR0 : ¬ ((0 ≤ sd ∧ sd ≤ 1) ∧ (0 ≤ k ∧ k ≤ 3) ∧ (0 ≤ part ∧ part ≤ 1) ∧ 0 ≤ (if sd = 0 then h 122 k else h 123 k)) → Rt (some (.inr (.inl (-1)))) (bg_SH n, h)) : bg_Ca bg_MS (d + 7) 101 [vR 2, vI sd, vI k, vI part] (bg_SH n, h) Rt := by
  have lo := lot_rg hI
  have wl : (wsM h).length ≤ 400 := (inv_tbl hI).2.1
  refine bg_ca (cd := cd_X8_chance) rfl rfl ?_
  intro X hX
  by_cases c : (0 ≤ sd ∧ sd ≤ 1) ∧ (0 ≤ k ∧ k ≤ 3) ∧ (0 ≤ part ∧ part ≤ 1)
  · obtain ⟨u, rfl⟩ : ∃ u : Nat, k = u := ⟨k.toNat, by omega⟩
    have lu := lo u (by omega)
    obtain ⟨tv, htv⟩ : ∃ tv : Int, tv = if sd = 0 then h 122 (u : Int) else h 123 (u : Int) := ⟨_, rfl⟩
    rw [← htv] at hR1 hR2 hR0
    have tv1 : -1 ≤ tv ∧ tv ≤ 32768 := by
      rw [htv]
      have := lu.1
      have := lu.2.1
      have := lu.2.2.1
      split <;> omega
    have start : X (58, [oR 2, oI sd, oI (u : Int), oI part, oI tv], [], (bg_SH n, h), (0, 0)) → X (0, [oR 2, oI sd, oI (u : Int), oI part, none], [], (bg_SH n, h), (0, 0)) := by
      intro hx
      by_cases c0 : sd = 0
      · have e : h 54 (u : Int) = tv := by rw [htv, if_pos c0]; exact lu.2.2.1.1
        refine hX _ ?_; conv => whnf
        refine hX _ ?_; conv => whnf
        refine ⟨fun q1 => ?_, fun q1 => ?_⟩
        · exfalso
          (try simp (disch := omega) only [bg_w_id, Int.toNat_natCast, rw_land, sh_land, not_true_eq_false, e, kc0, kc1, kc2, kc3, kc4, kc5, kc6, kc7, kc8, kc9, kc10, kc11, kc12, kc13, kc14, kc15, kc16, kc17, kc18, kc19, kc20, kc21, kc22, kc23, kc24, kc25, kc26, kc27, kc28, kc29, kc30, kc31, kc32, kc33] at q1) <;> (omega)
        · try simp (disch := omega) only [bg_w_id, Int.toNat_natCast, rw_land, sh_land, not_true_eq_false, e, kc0, kc1, kc2, kc3, kc4, kc5, kc6, kc7, kc8, kc9, kc10, kc11, kc12, kc13, kc14, kc15, kc16, kc17, kc18, kc19, kc20, kc21, kc22, kc23, kc24, kc25, kc26, kc27, kc28, kc29, kc30, kc31, kc32, kc33] at q1
          iterate 2 (refine hX _ ?_; conv => whnf)
          refine hX _ ?_; conv => whnf
          refine ⟨fun q6 => ?_, fun q6 => ?_⟩
          · exfalso
            (try simp (disch := omega) only [bg_w_id, Int.toNat_natCast, rw_land, sh_land, not_true_eq_false, e, kc0, kc1, kc2, kc3, kc4, kc5, kc6, kc7, kc8, kc9, kc10, kc11, kc12, kc13, kc14, kc15, kc16, kc17, kc18, kc19, kc20, kc21, kc22, kc23, kc24, kc25, kc26, kc27, kc28, kc29, kc30, kc31, kc32, kc33] at q6) <;> (omega)
          · try simp (disch := omega) only [bg_w_id, Int.toNat_natCast, rw_land, sh_land, not_true_eq_false, e, kc0, kc1, kc2, kc3, kc4, kc5, kc6, kc7, kc8, kc9, kc10, kc11, kc12, kc13, kc14, kc15, kc16, kc17, kc18, kc19, kc20, kc21, kc22, kc23, kc24, kc25, kc26, kc27, kc28, kc29, kc30, kc31, kc32, kc33] at q6
            refine hX _ ?_; conv => whnf
            refine hX _ ?_; conv => whnf
            refine ⟨fun q10 => ?_, fun q10 => ?_⟩
            · exfalso
              (try simp (disch := omega) only [bg_w_id, Int.toNat_natCast, rw_land, sh_land, not_true_eq_false, e, kc0, kc1, kc2, kc3, kc4, kc5, kc6, kc7, kc8, kc9, kc10, kc11, kc12, kc13, kc14, kc15, kc16, kc17, kc18, kc19, kc20, kc21, kc22, kc23, kc24, kc25, kc26, kc27, kc28, kc29, kc30, kc31, kc32, kc33] at q10) <;> (omega)
            · try simp (disch := omega) only [bg_w_id, Int.toNat_natCast, rw_land, sh_land, not_true_eq_false, e, kc0, kc1, kc2, kc3, kc4, kc5, kc6, kc7, kc8, kc9, kc10, kc11, kc12, kc13, kc14, kc15, kc16, kc17, kc18, kc19, kc20, kc21, kc22, kc23, kc24, kc25, kc26, kc27, kc28, kc29, kc30, kc31, kc32, kc33] at q10
              iterate 2 (refine hX _ ?_; conv => whnf)
              refine hX _ ?_; conv => whnf
              refine ⟨fun q15 => ?_, fun q15 => ?_⟩
              · exfalso
                (try simp (disch := omega) only [bg_w_id, Int.toNat_natCast, rw_land, sh_land, not_true_eq_false, e, kc0, kc1, kc2, kc3, kc4, kc5, kc6, kc7, kc8, kc9, kc10, kc11, kc12, kc13, kc14, kc15, kc16, kc17, kc18, kc19, kc20, kc21, kc22, kc23, kc24, kc25, kc26, kc27, kc28, kc29, kc30, kc31, kc32, kc33] at q15) <;> (omega)
              · try simp (disch := omega) only [bg_w_id, Int.toNat_natCast, rw_land, sh_land, not_true_eq_false, e, kc0, kc1, kc2, kc3, kc4, kc5, kc6, kc7, kc8, kc9, kc10, kc11, kc12, kc13, kc14, kc15, kc16, kc17, kc18, kc19, kc20, kc21, kc22, kc23, kc24, kc25, kc26, kc27, kc28, kc29, kc30, kc31, kc32, kc33] at q15
                refine hX _ ?_; conv => whnf
                refine hX _ ?_; conv => whnf
                refine ⟨fun q19 => ?_, fun q19 => ?_⟩
                · exfalso
                  (try simp (disch := omega) only [bg_w_id, Int.toNat_natCast, rw_land, sh_land, not_true_eq_false, e, kc0, kc1, kc2, kc3, kc4, kc5, kc6, kc7, kc8, kc9, kc10, kc11, kc12, kc13, kc14, kc15, kc16, kc17, kc18, kc19, kc20, kc21, kc22, kc23, kc24, kc25, kc26, kc27, kc28, kc29, kc30, kc31, kc32, kc33] at q19) <;> (omega)
                · try simp (disch := omega) only [bg_w_id, Int.toNat_natCast, rw_land, sh_land, not_true_eq_false, e, kc0, kc1, kc2, kc3, kc4, kc5, kc6, kc7, kc8, kc9, kc10, kc11, kc12, kc13, kc14, kc15, kc16, kc17, kc18, kc19, kc20, kc21, kc22, kc23, kc24, kc25, kc26, kc27, kc28, kc29, kc30, kc31, kc32, kc33] at q19
                  iterate 2 (refine hX _ ?_; conv => whnf)
                  refine hX _ ?_; conv => whnf
                  refine ⟨fun q24 => ?_, fun q24 => ?_⟩
                  · try simp (disch := omega) only [bg_w_id, Int.toNat_natCast, rw_land, sh_land, not_true_eq_false, e, kc0, kc1, kc2, kc3, kc4, kc5, kc6, kc7, kc8, kc9, kc10, kc11, kc12, kc13, kc14, kc15, kc16, kc17, kc18, kc19, kc20, kc21, kc22, kc23, kc24, kc25, kc26, kc27, kc28, kc29, kc30, kc31, kc32, kc33] at q24
                    refine hX _ ?_; conv => whnf
                    refine hX _ ?_; conv => whnf
                    refine ⟨fun q32 => ?_, fun q32 => ?_⟩
                    · exfalso
                      (try simp (disch := omega) only [bg_w_id, Int.toNat_natCast, rw_land, sh_land, not_true_eq_false, e, kc0, kc1, kc2, kc3, kc4, kc5, kc6, kc7, kc8, kc9, kc10, kc11, kc12, kc13, kc14, kc15, kc16, kc17, kc18, kc19, kc20, kc21, kc22, kc23, kc24, kc25, kc26, kc27, kc28, kc29, kc30, kc31, kc32, kc33] at q32) <;> (omega)
                    · try simp (disch := omega) only [bg_w_id, Int.toNat_natCast, rw_land, sh_land, not_true_eq_false, e, kc0, kc1, kc2, kc3, kc4, kc5, kc6, kc7, kc8, kc9, kc10, kc11, kc12, kc13, kc14, kc15, kc16, kc17, kc18, kc19, kc20, kc21, kc22, kc23, kc24, kc25, kc26, kc27, kc28, kc29, kc30, kc31, kc32, kc33] at q32
                      iterate 4 (refine hX _ ?_; conv => whnf)
                      refine hX _ ?_; conv => whnf
                      try (simp (disch := omega) only [bg_w_id, Int.toNat_natCast, rw_land, sh_land, not_true_eq_false, e]; try conv => whnf)
                      refine ⟨by first | omega | (simp (disch := omega) only [bg_w_id, Int.toNat_natCast, rw_land, sh_land, not_true_eq_false, e]; omega), ?_⟩
                      iterate 2 (refine hX _ ?_; conv => whnf)
                      try rw [e]
                      exact hx
                  · exfalso
                    (try simp (disch := omega) only [bg_w_id, Int.toNat_natCast, rw_land, sh_land, not_true_eq_false, e, kc0, kc1, kc2, kc3, kc4, kc5, kc6, kc7, kc8, kc9, kc10, kc11, kc12, kc13, kc14, kc15, kc16, kc17, kc18, kc19, kc20, kc21, kc22, kc23, kc24, kc25, kc26, kc27, kc28, kc29, kc30, kc31, kc32, kc33] at q24) <;> (omega)
      · have e : h 55 (u : Int) = tv := by rw [htv, if_neg c0]; exact lu.2.2.1.2
        refine hX _ ?_; conv => whnf
        refine hX _ ?_; conv => whnf
        refine ⟨fun q1 => ?_, fun q1 => ?_⟩
        · exfalso
          (try simp (disch := omega) only [bg_w_id, Int.toNat_natCast, rw_land, sh_land, not_true_eq_false, e, kc0, kc1, kc2, kc3, kc4, kc5, kc6, kc7, kc8, kc9, kc10, kc11, kc12, kc13, kc14, kc15, kc16, kc17, kc18, kc19, kc20, kc21, kc22, kc23, kc24, kc25, kc26, kc27, kc28, kc29, kc30, kc31, kc32, kc33] at q1) <;> (omega)
        · try simp (disch := omega) only [bg_w_id, Int.toNat_natCast, rw_land, sh_land, not_true_eq_false, e, kc0, kc1, kc2, kc3, kc4, kc5, kc6, kc7, kc8, kc9, kc10, kc11, kc12, kc13, kc14, kc15, kc16, kc17, kc18, kc19, kc20, kc21, kc22, kc23, kc24, kc25, kc26, kc27, kc28, kc29, kc30, kc31, kc32, kc33] at q1
          iterate 2 (refine hX _ ?_; conv => whnf)
          refine hX _ ?_; conv => whnf
          refine ⟨fun q6 => ?_, fun q6 => ?_⟩
          · exfalso
            (try simp (disch := omega) only [bg_w_id, Int.toNat_natCast, rw_land, sh_land, not_true_eq_false, e, kc0, kc1, kc2, kc3, kc4, kc5, kc6, kc7, kc8, kc9, kc10, kc11, kc12, kc13, kc14, kc15, kc16, kc17, kc18, kc19, kc20, kc21, kc22, kc23, kc24, kc25, kc26, kc27, kc28, kc29, kc30, kc31, kc32, kc33] at q6) <;> (omega)
          · try simp (disch := omega) only [bg_w_id, Int.toNat_natCast, rw_land, sh_land, not_true_eq_false, e, kc0, kc1, kc2, kc3, kc4, kc5, kc6, kc7, kc8, kc9, kc10, kc11, kc12, kc13, kc14, kc15, kc16, kc17, kc18, kc19, kc20, kc21, kc22, kc23, kc24, kc25, kc26, kc27, kc28, kc29, kc30, kc31, kc32, kc33] at q6
            refine hX _ ?_; conv => whnf
            refine hX _ ?_; conv => whnf
            refine ⟨fun q10 => ?_, fun q10 => ?_⟩
            · exfalso
              (try simp (disch := omega) only [bg_w_id, Int.toNat_natCast, rw_land, sh_land, not_true_eq_false, e, kc0, kc1, kc2, kc3, kc4, kc5, kc6, kc7, kc8, kc9, kc10, kc11, kc12, kc13, kc14, kc15, kc16, kc17, kc18, kc19, kc20, kc21, kc22, kc23, kc24, kc25, kc26, kc27, kc28, kc29, kc30, kc31, kc32, kc33] at q10) <;> (omega)
            · try simp (disch := omega) only [bg_w_id, Int.toNat_natCast, rw_land, sh_land, not_true_eq_false, e, kc0, kc1, kc2, kc3, kc4, kc5, kc6, kc7, kc8, kc9, kc10, kc11, kc12, kc13, kc14, kc15, kc16, kc17, kc18, kc19, kc20, kc21, kc22, kc23, kc24, kc25, kc26, kc27, kc28, kc29, kc30, kc31, kc32, kc33] at q10
              iterate 2 (refine hX _ ?_; conv => whnf)
              refine hX _ ?_; conv => whnf
              refine ⟨fun q15 => ?_, fun q15 => ?_⟩
              · exfalso
                (try simp (disch := omega) only [bg_w_id, Int.toNat_natCast, rw_land, sh_land, not_true_eq_false, e, kc0, kc1, kc2, kc3, kc4, kc5, kc6, kc7, kc8, kc9, kc10, kc11, kc12, kc13, kc14, kc15, kc16, kc17, kc18, kc19, kc20, kc21, kc22, kc23, kc24, kc25, kc26, kc27, kc28, kc29, kc30, kc31, kc32, kc33] at q15) <;> (omega)
              · try simp (disch := omega) only [bg_w_id, Int.toNat_natCast, rw_land, sh_land, not_true_eq_false, e, kc0, kc1, kc2, kc3, kc4, kc5, kc6, kc7, kc8, kc9, kc10, kc11, kc12, kc13, kc14, kc15, kc16, kc17, kc18, kc19, kc20, kc21, kc22, kc23, kc24, kc25, kc26, kc27, kc28, kc29, kc30, kc31, kc32, kc33] at q15
                refine hX _ ?_; conv => whnf
                refine hX _ ?_; conv => whnf
                refine ⟨fun q19 => ?_, fun q19 => ?_⟩
                · exfalso
                  (try simp (disch := omega) only [bg_w_id, Int.toNat_natCast, rw_land, sh_land, not_true_eq_false, e, kc0, kc1, kc2, kc3, kc4, kc5, kc6, kc7, kc8, kc9, kc10, kc11, kc12, kc13, kc14, kc15, kc16, kc17, kc18, kc19, kc20, kc21, kc22, kc23, kc24, kc25, kc26, kc27, kc28, kc29, kc30, kc31, kc32, kc33] at q19) <;> (omega)
                · try simp (disch := omega) only [bg_w_id, Int.toNat_natCast, rw_land, sh_land, not_true_eq_false, e, kc0, kc1, kc2, kc3, kc4, kc5, kc6, kc7, kc8, kc9, kc10, kc11, kc12, kc13, kc14, kc15, kc16, kc17, kc18, kc19, kc20, kc21, kc22, kc23, kc24, kc25, kc26, kc27, kc28, kc29, kc30, kc31, kc32, kc33] at q19
                  iterate 2 (refine hX _ ?_; conv => whnf)
                  refine hX _ ?_; conv => whnf
                  refine ⟨fun q24 => ?_, fun q24 => ?_⟩
                  · try simp (disch := omega) only [bg_w_id, Int.toNat_natCast, rw_land, sh_land, not_true_eq_false, e, kc0, kc1, kc2, kc3, kc4, kc5, kc6, kc7, kc8, kc9, kc10, kc11, kc12, kc13, kc14, kc15, kc16, kc17, kc18, kc19, kc20, kc21, kc22, kc23, kc24, kc25, kc26, kc27, kc28, kc29, kc30, kc31, kc32, kc33] at q24
                    refine hX _ ?_; conv => whnf
                    refine hX _ ?_; conv => whnf
                    refine ⟨fun q32 => ?_, fun q32 => ?_⟩
                    · try simp (disch := omega) only [bg_w_id, Int.toNat_natCast, rw_land, sh_land, not_true_eq_false, e, kc0, kc1, kc2, kc3, kc4, kc5, kc6, kc7, kc8, kc9, kc10, kc11, kc12, kc13, kc14, kc15, kc16, kc17, kc18, kc19, kc20, kc21, kc22, kc23, kc24, kc25, kc26, kc27, kc28, kc29, kc30, kc31, kc32, kc33] at q32
                      iterate 4 (refine hX _ ?_; conv => whnf)
                      refine hX _ ?_; conv => whnf
                      try (simp (disch := omega) only [bg_w_id, Int.toNat_natCast, rw_land, sh_land, not_true_eq_false, e]; try conv => whnf)
                      refine ⟨by first | omega | (simp (disch := omega) only [bg_w_id, Int.toNat_natCast, rw_land, sh_land, not_true_eq_false, e]; omega), ?_⟩
                      refine hX _ ?_; conv => whnf
                      try rw [e]
                      exact hx
                    · exfalso
                      (try simp (disch := omega) only [bg_w_id, Int.toNat_natCast, rw_land, sh_land, not_true_eq_false, e, kc0, kc1, kc2, kc3, kc4, kc5, kc6, kc7, kc8, kc9, kc10, kc11, kc12, kc13, kc14, kc15, kc16, kc17, kc18, kc19, kc20, kc21, kc22, kc23, kc24, kc25, kc26, kc27, kc28, kc29, kc30, kc31, kc32, kc33] at q32) <;> (omega)
                  · exfalso
                    (try simp (disch := omega) only [bg_w_id, Int.toNat_natCast, rw_land, sh_land, not_true_eq_false, e, kc0, kc1, kc2, kc3, kc4, kc5, kc6, kc7, kc8, kc9, kc10, kc11, kc12, kc13, kc14, kc15, kc16, kc17, kc18, kc19, kc20, kc21, kc22, kc23, kc24, kc25, kc26, kc27, kc28, kc29, kc30, kc31, kc32, kc33] at q24) <;> (omega)
    refine start ?_
    by_cases c1 : 0 ≤ tv
    · have hR1 := hR1 ⟨c.1, c.2.1, c.2.2, c1⟩
      have hR2 := hR2 ⟨c.1, c.2.1, c.2.2, c1⟩
      have go : bg_Ca bg_MS (d + 6) 110 [vR 2] (bg_SH n, h) (fun r H' => X (72, [oR 2, oI sd, oI (u : Int), oI part, oI tv], bg_push r [], H', (0, 0))) := by
        refine s_playC d n h hI _ (fun k a b hf h' f hm hv => ?_) (fun hno h' f => ?_)
        · obtain ⟨w, w1, w2, w3⟩ := mix_w (b4_G hI) hf.2.1.2.2.1
          obtain ⟨⟨p, p1, p2⟩, ⟨p', p1', p2'⟩⟩ := mix_p (b4_G hI) hf.2.1.2.2.1 (k := u) (by omega)
          have hR1 := hR1 k a b hf h' f
          rw [Int.toNat_natCast, w1] at hR1
          have e4 : h' 56 4 = (w : Int) := hm.1.trans w1
          have e61 : h' 62 (u : Int) = (p : Int) := (hm.2 u (by omega)).1.trans p1
          have e62 : h' 63 (u : Int) = (p' : Int) := (hm.2 u (by omega)).2.trans p1'
          by_cases c0 : sd = 0
          · rw [if_pos c0, p1] at hR1
            refine hX _ ?_; conv => whnf
            refine ⟨fun q72 => ?_, fun q72 => ?_⟩
            · try simp (disch := omega) only [bg_w_id, Int.toNat_natCast, rw_land, sh_land, not_true_eq_false, e61, kc0, kc1, kc2, kc3, kc4, kc5, kc6, kc7, kc8, kc9, kc10, kc11, kc12, kc13, kc14, kc15, kc16, kc17, kc18, kc19, kc20, kc21, kc22, kc23, kc24, kc25, kc26, kc27, kc28, kc29, kc30, kc31, kc32, kc33] at q72
              iterate 3 (refine hX _ ?_; conv => whnf)
              refine hX _ ?_; conv => whnf
              refine ⟨fun q84 => ?_, fun q84 => ?_⟩
              · exfalso
                (try simp (disch := omega) only [bg_w_id, Int.toNat_natCast, rw_land, sh_land, not_true_eq_false, e61, kc0, kc1, kc2, kc3, kc4, kc5, kc6, kc7, kc8, kc9, kc10, kc11, kc12, kc13, kc14, kc15, kc16, kc17, kc18, kc19, kc20, kc21, kc22, kc23, kc24, kc25, kc26, kc27, kc28, kc29, kc30, kc31, kc32, kc33] at q84) <;> (omega)
              · try simp (disch := omega) only [bg_w_id, Int.toNat_natCast, rw_land, sh_land, not_true_eq_false, e61, kc0, kc1, kc2, kc3, kc4, kc5, kc6, kc7, kc8, kc9, kc10, kc11, kc12, kc13, kc14, kc15, kc16, kc17, kc18, kc19, kc20, kc21, kc22, kc23, kc24, kc25, kc26, kc27, kc28, kc29, kc30, kc31, kc32, kc33] at q84
                iterate 4 (refine hX _ ?_; conv => whnf)
                refine hX _ ?_; conv => whnf
                try (simp (disch := omega) only [bg_w_id, Int.toNat_natCast, rw_land, sh_land, not_true_eq_false, e61]; try conv => whnf)
                refine ⟨by first | omega | (simp (disch := omega) only [bg_w_id, Int.toNat_natCast, rw_land, sh_land, not_true_eq_false, e61]; omega), ?_⟩
                iterate 2 (refine hX _ ?_; conv => whnf)
                refine hX _ ?_; conv => whnf
                try simp (disch := omega) only [bg_w_id, Int.toNat_natCast, rw_land, sh_land, not_true_eq_false, e61]
                try rw [e61]
                refine s_lowest (d + 5) n p w part c.2.2 ⟨w2, w3⟩ p2 h' e4 _ ?_
                conv => whnf
                refine hX _ ?_; conv => whnf
                exact hR1
            · exfalso
              (try simp (disch := omega) only [bg_w_id, Int.toNat_natCast, rw_land, sh_land, not_true_eq_false, e61, kc0, kc1, kc2, kc3, kc4, kc5, kc6, kc7, kc8, kc9, kc10, kc11, kc12, kc13, kc14, kc15, kc16, kc17, kc18, kc19, kc20, kc21, kc22, kc23, kc24, kc25, kc26, kc27, kc28, kc29, kc30, kc31, kc32, kc33] at q72) <;> (omega)
          · rw [if_neg c0, p1'] at hR1
            refine hX _ ?_; conv => whnf
            refine ⟨fun q72 => ?_, fun q72 => ?_⟩
            · try simp (disch := omega) only [bg_w_id, Int.toNat_natCast, rw_land, sh_land, not_true_eq_false, e62, kc0, kc1, kc2, kc3, kc4, kc5, kc6, kc7, kc8, kc9, kc10, kc11, kc12, kc13, kc14, kc15, kc16, kc17, kc18, kc19, kc20, kc21, kc22, kc23, kc24, kc25, kc26, kc27, kc28, kc29, kc30, kc31, kc32, kc33] at q72
              iterate 3 (refine hX _ ?_; conv => whnf)
              refine hX _ ?_; conv => whnf
              refine ⟨fun q84 => ?_, fun q84 => ?_⟩
              · try simp (disch := omega) only [bg_w_id, Int.toNat_natCast, rw_land, sh_land, not_true_eq_false, e62, kc0, kc1, kc2, kc3, kc4, kc5, kc6, kc7, kc8, kc9, kc10, kc11, kc12, kc13, kc14, kc15, kc16, kc17, kc18, kc19, kc20, kc21, kc22, kc23, kc24, kc25, kc26, kc27, kc28, kc29, kc30, kc31, kc32, kc33] at q84
                iterate 4 (refine hX _ ?_; conv => whnf)
                refine hX _ ?_; conv => whnf
                try (simp (disch := omega) only [bg_w_id, Int.toNat_natCast, rw_land, sh_land, not_true_eq_false, e62]; try conv => whnf)
                refine ⟨by first | omega | (simp (disch := omega) only [bg_w_id, Int.toNat_natCast, rw_land, sh_land, not_true_eq_false, e62]; omega), ?_⟩
                refine hX _ ?_; conv => whnf
                refine hX _ ?_; conv => whnf
                try simp (disch := omega) only [bg_w_id, Int.toNat_natCast, rw_land, sh_land, not_true_eq_false, e62]
                try rw [e62]
                refine s_lowest (d + 5) n p' w part c.2.2 ⟨w2, w3⟩ p2' h' e4 _ ?_
                conv => whnf
                refine hX _ ?_; conv => whnf
                exact hR1
              · exfalso
                (try simp (disch := omega) only [bg_w_id, Int.toNat_natCast, rw_land, sh_land, not_true_eq_false, e62, kc0, kc1, kc2, kc3, kc4, kc5, kc6, kc7, kc8, kc9, kc10, kc11, kc12, kc13, kc14, kc15, kc16, kc17, kc18, kc19, kc20, kc21, kc22, kc23, kc24, kc25, kc26, kc27, kc28, kc29, kc30, kc31, kc32, kc33] at q84) <;> (omega)
            · exfalso
              (try simp (disch := omega) only [bg_w_id, Int.toNat_natCast, rw_land, sh_land, not_true_eq_false, e62, kc0, kc1, kc2, kc3, kc4, kc5, kc6, kc7, kc8, kc9, kc10, kc11, kc12, kc13, kc14, kc15, kc16, kc17, kc18, kc19, kc20, kc21, kc22, kc23, kc24, kc25, kc26, kc27, kc28, kc29, kc30, kc31, kc32, kc33] at q72) <;> (omega)
        · refine hX _ ?_; conv => whnf
          refine ⟨fun q72 => ?_, fun q72 => ?_⟩
          · exfalso
            (try simp (disch := omega) only [bg_w_id, Int.toNat_natCast, rw_land, sh_land, not_true_eq_false, kc0, kc1, kc2, kc3, kc4, kc5, kc6, kc7, kc8, kc9, kc10, kc11, kc12, kc13, kc14, kc15, kc16, kc17, kc18, kc19, kc20, kc21, kc22, kc23, kc24, kc25, kc26, kc27, kc28, kc29, kc30, kc31, kc32, kc33] at q72) <;> (omega)
          · try simp (disch := omega) only [bg_w_id, Int.toNat_natCast, rw_land, sh_land, not_true_eq_false, kc0, kc1, kc2, kc3, kc4, kc5, kc6, kc7, kc8, kc9, kc10, kc11, kc12, kc13, kc14, kc15, kc16, kc17, kc18, kc19, kc20, kc21, kc22, kc23, kc24, kc25, kc26, kc27, kc28, kc29, kc30, kc31, kc32, kc33] at q72
            refine hX _ ?_; conv => whnf
            refine hX _ ?_; conv => whnf
            exact hR2 hno h' f
      iterate 2 (refine hX _ ?_; conv => whnf)
      refine hX _ ?_; conv => whnf
      refine ⟨fun q61 => ?_, fun q61 => ?_⟩
      · try simp (disch := omega) only [bg_w_id, Int.toNat_natCast, rw_land, sh_land, not_true_eq_false, kc0, kc1, kc2, kc3, kc4, kc5, kc6, kc7, kc8, kc9, kc10, kc11, kc12, kc13, kc14, kc15, kc16, kc17, kc18, kc19, kc20, kc21, kc22, kc23, kc24, kc25, kc26, kc27, kc28, kc29, kc30, kc31, kc32, kc33] at q61
        refine hX _ ?_; conv => whnf
        refine hX _ ?_; conv => whnf
        exact go
      · exfalso
        (try simp (disch := omega) only [bg_w_id, Int.toNat_natCast, rw_land, sh_land, not_true_eq_false, kc0, kc1, kc2, kc3, kc4, kc5, kc6, kc7, kc8, kc9, kc10, kc11, kc12, kc13, kc14, kc15, kc16, kc17, kc18, kc19, kc20, kc21, kc22, kc23, kc24, kc25, kc26, kc27, kc28, kc29, kc30, kc31, kc32, kc33] at q61) <;> (omega)
    · iterate 2 (refine hX _ ?_; conv => whnf)
      refine hX _ ?_; conv => whnf
      refine ⟨fun q61 => ?_, fun q61 => ?_⟩
      · exfalso
        (try simp (disch := omega) only [bg_w_id, Int.toNat_natCast, rw_land, sh_land, not_true_eq_false, kc0, kc1, kc2, kc3, kc4, kc5, kc6, kc7, kc8, kc9, kc10, kc11, kc12, kc13, kc14, kc15, kc16, kc17, kc18, kc19, kc20, kc21, kc22, kc23, kc24, kc25, kc26, kc27, kc28, kc29, kc30, kc31, kc32, kc33] at q61) <;> (omega)
      · try simp (disch := omega) only [bg_w_id, Int.toNat_natCast, rw_land, sh_land, not_true_eq_false, kc0, kc1, kc2, kc3, kc4, kc5, kc6, kc7, kc8, kc9, kc10, kc11, kc12, kc13, kc14, kc15, kc16, kc17, kc18, kc19, kc20, kc21, kc22, kc23, kc24, kc25, kc26, kc27, kc28, kc29, kc30, kc31, kc32, kc33] at q61
        refine hX _ ?_; conv => whnf
        refine hX _ ?_; conv => whnf
        exact hR0 (fun x => c1 x.2.2.2)
  · refine hX _ ?_; conv => whnf
    refine hX _ ?_; conv => whnf
    refine ⟨fun q1 => ?_, fun q1 => ?_⟩
    · try simp (disch := omega) only [bg_w_id, Int.toNat_natCast, rw_land, sh_land, not_true_eq_false, kc0, kc1, kc2, kc3, kc4, kc5, kc6, kc7, kc8, kc9, kc10, kc11, kc12, kc13, kc14, kc15, kc16, kc17, kc18, kc19, kc20, kc21, kc22, kc23, kc24, kc25, kc26, kc27, kc28, kc29, kc30, kc31, kc32, kc33] at q1
      refine hX _ ?_; conv => whnf
      refine hX _ ?_; conv => whnf
      exact hR0 (fun x => c ⟨x.1, x.2.1, x.2.2.1⟩)
    · try simp (disch := omega) only [bg_w_id, Int.toNat_natCast, rw_land, sh_land, not_true_eq_false, kc0, kc1, kc2, kc3, kc4, kc5, kc6, kc7, kc8, kc9, kc10, kc11, kc12, kc13, kc14, kc15, kc16, kc17, kc18, kc19, kc20, kc21, kc22, kc23, kc24, kc25, kc26, kc27, kc28, kc29, kc30, kc31, kc32, kc33] at q1
      iterate 2 (refine hX _ ?_; conv => whnf)
      refine hX _ ?_; conv => whnf
      refine ⟨fun q6 => ?_, fun q6 => ?_⟩
      · try simp (disch := omega) only [bg_w_id, Int.toNat_natCast, rw_land, sh_land, not_true_eq_false, kc0, kc1, kc2, kc3, kc4, kc5, kc6, kc7, kc8, kc9, kc10, kc11, kc12, kc13, kc14, kc15, kc16, kc17, kc18, kc19, kc20, kc21, kc22, kc23, kc24, kc25, kc26, kc27, kc28, kc29, kc30, kc31, kc32, kc33] at q6
        refine hX _ ?_; conv => whnf
        refine hX _ ?_; conv => whnf
        exact hR0 (fun x => c ⟨x.1, x.2.1, x.2.2.1⟩)
      · try simp (disch := omega) only [bg_w_id, Int.toNat_natCast, rw_land, sh_land, not_true_eq_false, kc0, kc1, kc2, kc3, kc4, kc5, kc6, kc7, kc8, kc9, kc10, kc11, kc12, kc13, kc14, kc15, kc16, kc17, kc18, kc19, kc20, kc21, kc22, kc23, kc24, kc25, kc26, kc27, kc28, kc29, kc30, kc31, kc32, kc33] at q6
        refine hX _ ?_; conv => whnf
        refine hX _ ?_; conv => whnf
        refine ⟨fun q10 => ?_, fun q10 => ?_⟩
        · try simp (disch := omega) only [bg_w_id, Int.toNat_natCast, rw_land, sh_land, not_true_eq_false, kc0, kc1, kc2, kc3, kc4, kc5, kc6, kc7, kc8, kc9, kc10, kc11, kc12, kc13, kc14, kc15, kc16, kc17, kc18, kc19, kc20, kc21, kc22, kc23, kc24, kc25, kc26, kc27, kc28, kc29, kc30, kc31, kc32, kc33] at q10
          refine hX _ ?_; conv => whnf
          refine hX _ ?_; conv => whnf
          exact hR0 (fun x => c ⟨x.1, x.2.1, x.2.2.1⟩)
        · try simp (disch := omega) only [bg_w_id, Int.toNat_natCast, rw_land, sh_land, not_true_eq_false, kc0, kc1, kc2, kc3, kc4, kc5, kc6, kc7, kc8, kc9, kc10, kc11, kc12, kc13, kc14, kc15, kc16, kc17, kc18, kc19, kc20, kc21, kc22, kc23, kc24, kc25, kc26, kc27, kc28, kc29, kc30, kc31, kc32, kc33] at q10
          iterate 2 (refine hX _ ?_; conv => whnf)
          refine hX _ ?_; conv => whnf
          refine ⟨fun q15 => ?_, fun q15 => ?_⟩
          · try simp (disch := omega) only [bg_w_id, Int.toNat_natCast, rw_land, sh_land, not_true_eq_false, kc0, kc1, kc2, kc3, kc4, kc5, kc6, kc7, kc8, kc9, kc10, kc11, kc12, kc13, kc14, kc15, kc16, kc17, kc18, kc19, kc20, kc21, kc22, kc23, kc24, kc25, kc26, kc27, kc28, kc29, kc30, kc31, kc32, kc33] at q15
            refine hX _ ?_; conv => whnf
            refine hX _ ?_; conv => whnf
            exact hR0 (fun x => c ⟨x.1, x.2.1, x.2.2.1⟩)
          · try simp (disch := omega) only [bg_w_id, Int.toNat_natCast, rw_land, sh_land, not_true_eq_false, kc0, kc1, kc2, kc3, kc4, kc5, kc6, kc7, kc8, kc9, kc10, kc11, kc12, kc13, kc14, kc15, kc16, kc17, kc18, kc19, kc20, kc21, kc22, kc23, kc24, kc25, kc26, kc27, kc28, kc29, kc30, kc31, kc32, kc33] at q15
            refine hX _ ?_; conv => whnf
            refine hX _ ?_; conv => whnf
            refine ⟨fun q19 => ?_, fun q19 => ?_⟩
            · try simp (disch := omega) only [bg_w_id, Int.toNat_natCast, rw_land, sh_land, not_true_eq_false, kc0, kc1, kc2, kc3, kc4, kc5, kc6, kc7, kc8, kc9, kc10, kc11, kc12, kc13, kc14, kc15, kc16, kc17, kc18, kc19, kc20, kc21, kc22, kc23, kc24, kc25, kc26, kc27, kc28, kc29, kc30, kc31, kc32, kc33] at q19
              refine hX _ ?_; conv => whnf
              refine hX _ ?_; conv => whnf
              exact hR0 (fun x => c ⟨x.1, x.2.1, x.2.2.1⟩)
            · try simp (disch := omega) only [bg_w_id, Int.toNat_natCast, rw_land, sh_land, not_true_eq_false, kc0, kc1, kc2, kc3, kc4, kc5, kc6, kc7, kc8, kc9, kc10, kc11, kc12, kc13, kc14, kc15, kc16, kc17, kc18, kc19, kc20, kc21, kc22, kc23, kc24, kc25, kc26, kc27, kc28, kc29, kc30, kc31, kc32, kc33] at q19
              iterate 2 (refine hX _ ?_; conv => whnf)
              refine hX _ ?_; conv => whnf
              refine ⟨fun q24 => ?_, fun q24 => ?_⟩
              · try simp (disch := omega) only [bg_w_id, Int.toNat_natCast, rw_land, sh_land, not_true_eq_false, kc0, kc1, kc2, kc3, kc4, kc5, kc6, kc7, kc8, kc9, kc10, kc11, kc12, kc13, kc14, kc15, kc16, kc17, kc18, kc19, kc20, kc21, kc22, kc23, kc24, kc25, kc26, kc27, kc28, kc29, kc30, kc31, kc32, kc33] at q24
                exfalso; omega
              · try simp (disch := omega) only [bg_w_id, Int.toNat_natCast, rw_land, sh_land, not_true_eq_false, kc0, kc1, kc2, kc3, kc4, kc5, kc6, kc7, kc8, kc9, kc10, kc11, kc12, kc13, kc14, kc15, kc16, kc17, kc18, kc19, kc20, kc21, kc22, kc23, kc24, kc25, kc26, kc27, kc28, kc29, kc30, kc31, kc32, kc33] at q24
                refine hX _ ?_; conv => whnf
                refine hX _ ?_; conv => whnf
                exact hR0 (fun x => c ⟨x.1, x.2.1, x.2.2.1⟩)
