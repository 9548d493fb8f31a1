/-! the model's game: members, cells, determinants -/
theorem cN_n : ∀ n : Nat, n < 6 → ∀ t : Nat, t < 2 ^ n → ∀ nth : Nat, nth < 5 → pc 5 t + nth < n → cN t nth < n ∧ (t ||| 2 ^ cN t nth) < 2 ^ n := by decide +kernel
theorem tmS_cn {n o : Nat} {cl cl' : Nat → Int} (hn : n ≤ 5) : ∀ r, r ≤ n → (∀ r c, r < n → c < n → cl (5 * r + c) = cl' (5 * r + c)) → tmS n o cl r = tmS n o cl' r ∧ (tmS n o cl r).2.1 < 2 ^ n ∧ pc 5 (tmS n o cl r).2.1 = r
  | 0, _, _ => ⟨rfl, Nat.two_pow_pos n, pc_zero 5⟩
  | r + 1, hr, h => by
    obtain ⟨a, b, c⟩ := tmS_cn (o := o) hn r (by omega) h
    have hm : (tmS n o cl r).1 % (n - r) < n - r := Nat.mod_lt _ (by omega)
    have p32 : 2 ^ n ≤ 2 ^ 5 := Nat.pow_le_pow_right (by decide) hn
    have ok := cN_ok (tmS n o cl r).2.1 (by omega) ((tmS n o cl r).1 % (n - r)) (by omega) (by omega)
    have on := cN_n n (by omega) (tmS n o cl r).2.1 b ((tmS n o cl r).1 % (n - r)) (by omega) (by omega)
    refine ⟨?_, on.2, by rw [show (tmS n o cl (r + 1)).2.1 = (tmS n o cl r).2.1 ||| 2 ^ cN (tmS n o cl r).2.1 ((tmS n o cl r).1 % (n - r)) from rfl, ok.2.2.2, c]⟩
    show ((tmS n o cl r).1 / (n - r), (tmS n o cl r).2.1 ||| 2 ^ cN (tmS n o cl r).2.1 ((tmS n o cl r).1 % (n - r)), (tmS n o cl r).2.2 * (cl (5 * r + cN (tmS n o cl r).2.1 ((tmS n o cl r).1 % (n - r))) * (if (tmS n o cl r).1 % (n - r) % 2 = 0 then 1 else -1))) = _
    rw [h _ _ (by omega) on.1, a]
    rfl
theorem detL_cn {n : Nat} {cl cl' : Nat → Int} (hn : n ≤ 5) (h : ∀ r c, r < n → c < n → cl (5 * r + c) = cl' (5 * r + c)) : detL n cl = detL n cl' := by
  unfold detL
  exact sm_congr (fun o ho => by rw [(tmS_cn hn n (Nat.le_refl n) h).1])
theorem tmS_l {n o : Nat} {cl : Nat → Int} : ∀ r, (tmS n o cl r).1 ≤ o
  | 0 => Nat.le_refl o
  | r + 1 => Nat.le_trans (Nat.div_le_self _ _) (tmS_l r)
theorem rd5 : ∀ a : Nat, a < 121 → ∀ b : Nat, b < 6 → 1 ≤ b → bg_rem a b = ((a % b : Nat) : Int) ∧ bg_div a b = ((a / b : Nat) : Int) := by decide +kernel
theorem fct_le : ∀ n : Nat, n < 6 → fct n ≤ 120 ∧ 1 ≤ fct n := by decide +kernel
theorem s_mdet (d n m : Nat) (hm : 1 ≤ m ∧ m ≤ 5) (h : bg_G) (Rt : bg_R) (hR : Rt (some (.inr (.inl (detL m (fun i : Nat => h 135 (i : Int)))))) (bg_SH n, h)) : bg_Ca bg_MS (d + 2) 169 [vR 115, vI m] (bg_SH n, h) Rt := by
  obtain ⟨cl, hcl⟩ : ∃ cl : Nat → Int, cl = fun i : Nat => h 135 (i : Int) := ⟨_, rfl⟩
  rw [← hcl] at hR
  have ecl : ∀ i : Nat, h 135 i = cl i := fun i => by rw [hcl]
  obtain ⟨q1, q2⟩ := fct_le m (by omega)
  refine bg_ca (cd := cd_X9_determinant) rfl rfl ?_
  intro X hX
  have l1 : ∀ o, o ≤ fct m → ∀ j6 j7 j8 j10 j11 j12 j13 : Option bg_V, X (30, [oR 115, oI (m : Int), oL (sm o (fun o => (tmS m o cl m).2.2)), none, oI (fct m : Nat), oI (o : Int), j6, j7, j8, none, j10, j11, j12, j13], [], (bg_SH n, h), (0, 0)) := by
    refine lp_up (fct m) _ ?_ (fun o ho ih => ?_)
    · intro j6 j7 j8 j10 j11 j12 j13
      iterate 2 (refine hX _ ?_; conv => whnf)
      refine hX _ ?_; conv => whnf
      refine ⟨fun q34 => ?_, fun q34 => ?_⟩
      · try simp (disch := omega) only [bg_w_id, Int.toNat_natCast, rw_land, sh_land, not_true_eq_false, kc0, kc1, kc2, kc3, kc4, kc5, kc6, kc7, kc8, kc9, kc10, kc11, kc12, kc13, kc14, kc15, kc16, kc17, kc18, kc19, kc20, kc21, kc22, kc23, kc24, kc25, kc26, kc27, kc28, kc29, kc30, kc31, kc32, kc33] at q34
        refine hX _ ?_; conv => whnf
        refine hX _ ?_; conv => whnf
        exact hR
      · exfalso
        (try simp (disch := omega) only [bg_w_id, Int.toNat_natCast, rw_land, sh_land, not_true_eq_false, kc0, kc1, kc2, kc3, kc4, kc5, kc6, kc7, kc8, kc9, kc10, kc11, kc12, kc13, kc14, kc15, kc16, kc17, kc18, kc19, kc20, kc21, kc22, kc23, kc24, kc25, kc26, kc27, kc28, kc29, kc30, kc31, kc32, kc33] at q34) <;> (omega)
    · intro j6 j7 j8 j10 j11 j12 j13
      have l2 : ∀ r, r ≤ m → ∀ j11 j12 j13 : Option bg_V, X (50, [oR 115, oI (m : Int), oL (sm o (fun o => (tmS m o cl m).2.2)), none, oI (fct m : Nat), oI (o : Int), oI ((tmS m o cl r).1 : Nat), oI ((tmS m o cl r).2.1 : Nat), oL (tmS m o cl r).2.2, none, oI (r : Int), j11, j12, j13], [], (bg_SH n, h), (0, 0)) := by
        refine lp_up m _ ?_ (fun r hr ih2 => ?_)
        · intro j11 j12 j13
          rw [sm_s] at ih
          iterate 2 (refine hX _ ?_; conv => whnf)
          refine hX _ ?_; conv => whnf
          refine ⟨fun q53 => ?_, fun q53 => ?_⟩
          · try simp (disch := omega) only [bg_w_id, Int.toNat_natCast, rw_land, sh_land, not_true_eq_false, kc0, kc1, kc2, kc3, kc4, kc5, kc6, kc7, kc8, kc9, kc10, kc11, kc12, kc13, kc14, kc15, kc16, kc17, kc18, kc19, kc20, kc21, kc22, kc23, kc24, kc25, kc26, kc27, kc28, kc29, kc30, kc31, kc32, kc33] at q53
            iterate 6 (refine hX _ ?_; conv => whnf)
            exact ih _ _ _ _ _ _ _
          · exfalso
            (try simp (disch := omega) only [bg_w_id, Int.toNat_natCast, rw_land, sh_land, not_true_eq_false, kc0, kc1, kc2, kc3, kc4, kc5, kc6, kc7, kc8, kc9, kc10, kc11, kc12, kc13, kc14, kc15, kc16, kc17, kc18, kc19, kc20, kc21, kc22, kc23, kc24, kc25, kc26, kc27, kc28, kc29, kc30, kc31, kc32, kc33] at q53) <;> (omega)
        · intro j11 j12 j13
          obtain ⟨_, t1, t2⟩ := tmS_cn (o := o) (cl := cl) (cl' := cl) hm.2 r (by omega) (fun _ _ _ _ => rfl)
          have tl := tmS_l (n := m) (o := o) (cl := cl) r
          have p32 : 2 ^ m ≤ 2 ^ 5 := Nat.pow_le_pow_right (by decide) hm.2
          have es : tmS m o cl (r + 1) = ((tmS m o cl r).1 / (m - r), (tmS m o cl r).2.1 ||| 2 ^ cN (tmS m o cl r).2.1 ((tmS m o cl r).1 % (m - r)), (tmS m o cl r).2.2 * (cl (5 * r + cN (tmS m o cl r).2.1 ((tmS m o cl r).1 % (m - r))) * (if (tmS m o cl r).1 % (m - r) % 2 = 0 then 1 else -1))) := rfl
          rw [es] at ih2
          generalize (tmS m o cl r).1 = lf at *
          generalize (tmS m o cl r).2.1 = t at *
          generalize (tmS m o cl r).2.2 = v at *
          have hmod : lf % (m - r) < m - r := Nat.mod_lt _ (by omega)
          obtain ⟨e1, e2⟩ := rd5 lf (by omega) (m - r) (by omega) (by omega)
          rw [show ((m - r : Nat) : Int) = (m : Int) - (r : Int) by omega] at e1 e2
          obtain ⟨nth, hnth⟩ : ∃ nth, nth = lf % (m - r) := ⟨_, rfl⟩
          rw [← hnth] at e1 ih2 hmod
          obtain ⟨o1, o2, o3, o4⟩ := cN_ok t (by omega) nth (by omega) (by omega)
          have on := cN_n m (by omega) t t1 nth (by omega) (by omega)
          obtain ⟨rs, hrs⟩ : ∃ rs, rs = cN t nth := ⟨_, rfl⟩
          rw [← hrs] at o1 o2 o3 o4 on ih2
          obtain ⟨e3, e4⟩ := rd5 nth (by omega) 2 (by omega) (by omega)
          have p16 : 2 ^ rs ≤ 2 ^ 4 := Nat.pow_le_pow_right (by decide) (by omega)
          have eb : bg_or (t : Int) (bg_shl 1 (rs : Int)) = ((t ||| 2 ^ rs : Nat) : Int) := by rw [bn_bit (by omega), bn_or (by omega) (by omega)]
          have ec : h 135 (5 * (r : Int) + (rs : Int)) = cl (5 * r + rs) := by
            rw [← ecl]
            congr 1 <;> omega
          -- behind the column
          have x123 : ∀ s : Int, X (123, [oR 115, oI (m : Int), oL (sm o (fun o => (tmS m o cl m).2.2)), none, oI (fct m : Nat), oI (o : Int), oI ((lf / (m - r) : Nat) : Int), oI (t : Int), oL v, none, oI (r : Int), oI (nth : Int), oI (rs : Int), oI s], [], (bg_SH n, h), (0, 0)) := by
            intro s
            by_cases c0 : nth % 2 = 0
            · rw [if_pos c0] at ih2
              rw [c0] at e3
              iterate 14 (refine hX _ ?_; conv => whnf)
              refine hX _ ?_; conv => whnf
              try (simp (disch := omega) only [bg_w_id, Int.toNat_natCast, rw_land, sh_land, not_true_eq_false, ec]; try conv => whnf)
              refine ⟨by first | omega | (simp (disch := omega) only [bg_w_id, Int.toNat_natCast, rw_land, sh_land, not_true_eq_false, ec]; omega), ?_⟩
              iterate 2 (refine hX _ ?_; conv => whnf)
              refine hX _ ?_; conv => whnf
              refine ⟨by first | omega | decide | (simp (disch := omega) only [bg_w_id, Int.toNat_natCast, rw_land, sh_land, not_true_eq_false, ec]; omega), ?_⟩
              refine hX _ ?_; conv => whnf
              refine ⟨fun q150 => ?_, fun q150 => ?_⟩
              · exfalso
                (try simp (disch := omega) only [bg_w_id, Int.toNat_natCast, rw_land, sh_land, not_true_eq_false, ec, kc0, kc1, kc2, kc3, kc4, kc5, kc6, kc7, kc8, kc9, kc10, kc11, kc12, kc13, kc14, kc15, kc16, kc17, kc18, kc19, kc20, kc21, kc22, kc23, kc24, kc25, kc26, kc27, kc28, kc29, kc30, kc31, kc32, kc33] at q150) <;> ((try rw [show (2 : Int) = ((2 : Nat) : Int) from rfl, e3] at q150); (try rw [bg_w_id (by omega) (by omega)] at q150); omega)
              · try simp (disch := omega) only [bg_w_id, Int.toNat_natCast, rw_land, sh_land, not_true_eq_false, ec, kc0, kc1, kc2, kc3, kc4, kc5, kc6, kc7, kc8, kc9, kc10, kc11, kc12, kc13, kc14, kc15, kc16, kc17, kc18, kc19, kc20, kc21, kc22, kc23, kc24, kc25, kc26, kc27, kc28, kc29, kc30, kc31, kc32, kc33] at q150
                iterate 7 (refine hX _ ?_; conv => whnf)
                rw [eb]
                try rw [ec]
                exact ih2 _ _ _
            · rw [if_neg c0] at ih2
              rw [show nth % 2 = 1 by omega] at e3
              iterate 14 (refine hX _ ?_; conv => whnf)
              refine hX _ ?_; conv => whnf
              try (simp (disch := omega) only [bg_w_id, Int.toNat_natCast, rw_land, sh_land, not_true_eq_false, ec]; try conv => whnf)
              refine ⟨by first | omega | (simp (disch := omega) only [bg_w_id, Int.toNat_natCast, rw_land, sh_land, not_true_eq_false, ec]; omega), ?_⟩
              iterate 2 (refine hX _ ?_; conv => whnf)
              refine hX _ ?_; conv => whnf
              refine ⟨by first | omega | decide | (simp (disch := omega) only [bg_w_id, Int.toNat_natCast, rw_land, sh_land, not_true_eq_false, ec]; omega), ?_⟩
              refine hX _ ?_; conv => whnf
              refine ⟨fun q150 => ?_, fun q150 => ?_⟩
              · try simp (disch := omega) only [bg_w_id, Int.toNat_natCast, rw_land, sh_land, not_true_eq_false, ec, kc0, kc1, kc2, kc3, kc4, kc5, kc6, kc7, kc8, kc9, kc10, kc11, kc12, kc13, kc14, kc15, kc16, kc17, kc18, kc19, kc20, kc21, kc22, kc23, kc24, kc25, kc26, kc27, kc28, kc29, kc30, kc31, kc32, kc33] at q150
                iterate 6 (refine hX _ ?_; conv => whnf)
                rw [eb]
                try rw [ec]
                exact ih2 _ _ _
              · exfalso
                (try simp (disch := omega) only [bg_w_id, Int.toNat_natCast, rw_land, sh_land, not_true_eq_false, ec, kc0, kc1, kc2, kc3, kc4, kc5, kc6, kc7, kc8, kc9, kc10, kc11, kc12, kc13, kc14, kc15, kc16, kc17, kc18, kc19, kc20, kc21, kc22, kc23, kc24, kc25, kc26, kc27, kc28, kc29, kc30, kc31, kc32, kc33] at q150) <;> ((try rw [show (2 : Int) = ((2 : Nat) : Int) from rfl, e3] at q150); (try rw [bg_w_id (by omega) (by omega)] at q150); omega)
          -- the column looked for
          have lw : ∀ f c s : Nat, c + f = 8 → s ≤ c → cfO t nth f c s = some rs → X (80, [oR 115, oI (m : Int), oL (sm o (fun o => (tmS m o cl m).2.2)), none, oI (fct m : Nat), oI (o : Int), oI ((lf / (m - r) : Nat) : Int), oI (t : Int), oL v, none, oI (r : Int), oI (nth : Int), oI (c : Int), oI (s : Int)], [], (bg_SH n, h), (0, 0)) := by
            intro f
            induction f with
            | zero => intro c s _ _ hx; exact absurd hx (by simp [cfO])
            | succ f ihf =>
              intro c s hcf hsc hx
              have ebt : bt (t : Int) (c : Int) = if t.testBit c then 1 else 0 := bt_tb (by omega) (by omega)
              unfold cfO at hx
              by_cases c1 : t.testBit c = true
              · rw [c1] at hx
                rw [if_pos c1] at ebt
                have nx := ihf (c + 1) s (by omega) (by omega) hx
                iterate 2 (refine hX _ ?_; conv => whnf)
                refine hX _ ?_; conv => whnf
                try simp (disch := omega) only [bg_w_id, Int.toNat_natCast, rw_land, sh_land, not_true_eq_false]
                refine s_has d _ _ _ _ ?_
                rw [ebt]
                conv => whnf
                refine hX _ ?_; conv => whnf
                refine ⟨fun q87 => ?_, fun q87 => ?_⟩
                · try simp (disch := omega) only [bg_w_id, Int.toNat_natCast, rw_land, sh_land, not_true_eq_false, kc0, kc1, kc2, kc3, kc4, kc5, kc6, kc7, kc8, kc9, kc10, kc11, kc12, kc13, kc14, kc15, kc16, kc17, kc18, kc19, kc20, kc21, kc22, kc23, kc24, kc25, kc26, kc27, kc28, kc29, kc30, kc31, kc32, kc33] at q87
                  iterate 3 (refine hX _ ?_; conv => whnf)
                  refine hX _ ?_; conv => whnf
                  try simp (disch := omega) only [bg_w_id, Int.toNat_natCast, rw_land, sh_land, not_true_eq_false]
                  refine s_has d _ _ _ _ ?_
                  rw [ebt]
                  conv => whnf
                  refine hX _ ?_; conv => whnf
                  refine ⟨fun q106 => ?_, fun q106 => ?_⟩
                  · exfalso
                    (try simp (disch := omega) only [bg_w_id, Int.toNat_natCast, rw_land, sh_land, not_true_eq_false, kc0, kc1, kc2, kc3, kc4, kc5, kc6, kc7, kc8, kc9, kc10, kc11, kc12, kc13, kc14, kc15, kc16, kc17, kc18, kc19, kc20, kc21, kc22, kc23, kc24, kc25, kc26, kc27, kc28, kc29, kc30, kc31, kc32, kc33] at q106) <;> (omega)
                  · try simp (disch := omega) only [bg_w_id, Int.toNat_natCast, rw_land, sh_land, not_true_eq_false, kc0, kc1, kc2, kc3, kc4, kc5, kc6, kc7, kc8, kc9, kc10, kc11, kc12, kc13, kc14, kc15, kc16, kc17, kc18, kc19, kc20, kc21, kc22, kc23, kc24, kc25, kc26, kc27, kc28, kc29, kc30, kc31, kc32, kc33] at q106
                    iterate 6 (refine hX _ ?_; conv => whnf)
                    rw [Int.add_zero]
                    exact nx
                · exfalso
                  (try simp (disch := omega) only [bg_w_id, Int.toNat_natCast, rw_land, sh_land, not_true_eq_false, kc0, kc1, kc2, kc3, kc4, kc5, kc6, kc7, kc8, kc9, kc10, kc11, kc12, kc13, kc14, kc15, kc16, kc17, kc18, kc19, kc20, kc21, kc22, kc23, kc24, kc25, kc26, kc27, kc28, kc29, kc30, kc31, kc32, kc33] at q87) <;> (omega)
              · rw [if_neg c1] at ebt
                rw [show t.testBit c = false by simpa using c1] at hx
                have hx : (match Nat.blt s nth with
                  | true => cfO t nth f (c + 1) (s + 1)
                  | false => some c) = some rs := hx
                by_cases c2 : s < nth
                · rw [show Nat.blt s nth = true by simpa using c2] at hx
                  have nx := ihf (c + 1) (s + 1) (by omega) (by omega) hx
                  iterate 2 (refine hX _ ?_; conv => whnf)
                  refine hX _ ?_; conv => whnf
                  try simp (disch := omega) only [bg_w_id, Int.toNat_natCast, rw_land, sh_land, not_true_eq_false]
                  refine s_has d _ _ _ _ ?_
                  rw [ebt]
                  conv => whnf
                  refine hX _ ?_; conv => whnf
                  refine ⟨fun q87 => ?_, fun q87 => ?_⟩
                  · exfalso
                    (try simp (disch := omega) only [bg_w_id, Int.toNat_natCast, rw_land, sh_land, not_true_eq_false, kc0, kc1, kc2, kc3, kc4, kc5, kc6, kc7, kc8, kc9, kc10, kc11, kc12, kc13, kc14, kc15, kc16, kc17, kc18, kc19, kc20, kc21, kc22, kc23, kc24, kc25, kc26, kc27, kc28, kc29, kc30, kc31, kc32, kc33] at q87) <;> (omega)
                  · try simp (disch := omega) only [bg_w_id, Int.toNat_natCast, rw_land, sh_land, not_true_eq_false, kc0, kc1, kc2, kc3, kc4, kc5, kc6, kc7, kc8, kc9, kc10, kc11, kc12, kc13, kc14, kc15, kc16, kc17, kc18, kc19, kc20, kc21, kc22, kc23, kc24, kc25, kc26, kc27, kc28, kc29, kc30, kc31, kc32, kc33] at q87
                    iterate 2 (refine hX _ ?_; conv => whnf)
                    refine hX _ ?_; conv => whnf
                    refine ⟨fun q94 => ?_, fun q94 => ?_⟩
                    · exfalso
                      (try simp (disch := omega) only [bg_w_id, Int.toNat_natCast, rw_land, sh_land, not_true_eq_false, kc0, kc1, kc2, kc3, kc4, kc5, kc6, kc7, kc8, kc9, kc10, kc11, kc12, kc13, kc14, kc15, kc16, kc17, kc18, kc19, kc20, kc21, kc22, kc23, kc24, kc25, kc26, kc27, kc28, kc29, kc30, kc31, kc32, kc33] at q94) <;> (omega)
                    · try simp (disch := omega) only [bg_w_id, Int.toNat_natCast, rw_land, sh_land, not_true_eq_false, kc0, kc1, kc2, kc3, kc4, kc5, kc6, kc7, kc8, kc9, kc10, kc11, kc12, kc13, kc14, kc15, kc16, kc17, kc18, kc19, kc20, kc21, kc22, kc23, kc24, kc25, kc26, kc27, kc28, kc29, kc30, kc31, kc32, kc33] at q94
                      iterate 3 (refine hX _ ?_; conv => whnf)
                      refine hX _ ?_; conv => whnf
                      try simp (disch := omega) only [bg_w_id, Int.toNat_natCast, rw_land, sh_land, not_true_eq_false]
                      refine s_has d _ _ _ _ ?_
                      rw [ebt]
                      conv => whnf
                      refine hX _ ?_; conv => whnf
                      refine ⟨fun q106 => ?_, fun q106 => ?_⟩
                      · try simp (disch := omega) only [bg_w_id, Int.toNat_natCast, rw_land, sh_land, not_true_eq_false, kc0, kc1, kc2, kc3, kc4, kc5, kc6, kc7, kc8, kc9, kc10, kc11, kc12, kc13, kc14, kc15, kc16, kc17, kc18, kc19, kc20, kc21, kc22, kc23, kc24, kc25, kc26, kc27, kc28, kc29, kc30, kc31, kc32, kc33] at q106
                        iterate 5 (refine hX _ ?_; conv => whnf)
                        exact nx
                      · exfalso
                        (try simp (disch := omega) only [bg_w_id, Int.toNat_natCast, rw_land, sh_land, not_true_eq_false, kc0, kc1, kc2, kc3, kc4, kc5, kc6, kc7, kc8, kc9, kc10, kc11, kc12, kc13, kc14, kc15, kc16, kc17, kc18, kc19, kc20, kc21, kc22, kc23, kc24, kc25, kc26, kc27, kc28, kc29, kc30, kc31, kc32, kc33] at q106) <;> (omega)
                · rw [show Nat.blt s nth = false by
                    cases hh : Nat.blt s nth with
                    | false => rfl
                    | true => exact absurd (by simpa using hh) c2] at hx
                  have hx : some c = some rs := hx
                  rw [Option.some.injEq] at hx
                  subst hx
                  iterate 2 (refine hX _ ?_; conv => whnf)
                  refine hX _ ?_; conv => whnf
                  try simp (disch := omega) only [bg_w_id, Int.toNat_natCast, rw_land, sh_land, not_true_eq_false]
                  refine s_has d _ _ _ _ ?_
                  rw [ebt]
                  conv => whnf
                  refine hX _ ?_; conv => whnf
                  refine ⟨fun q87 => ?_, fun q87 => ?_⟩
                  · exfalso
                    (try simp (disch := omega) only [bg_w_id, Int.toNat_natCast, rw_land, sh_land, not_true_eq_false, kc0, kc1, kc2, kc3, kc4, kc5, kc6, kc7, kc8, kc9, kc10, kc11, kc12, kc13, kc14, kc15, kc16, kc17, kc18, kc19, kc20, kc21, kc22, kc23, kc24, kc25, kc26, kc27, kc28, kc29, kc30, kc31, kc32, kc33] at q87) <;> (omega)
                  · try simp (disch := omega) only [bg_w_id, Int.toNat_natCast, rw_land, sh_land, not_true_eq_false, kc0, kc1, kc2, kc3, kc4, kc5, kc6, kc7, kc8, kc9, kc10, kc11, kc12, kc13, kc14, kc15, kc16, kc17, kc18, kc19, kc20, kc21, kc22, kc23, kc24, kc25, kc26, kc27, kc28, kc29, kc30, kc31, kc32, kc33] at q87
                    iterate 2 (refine hX _ ?_; conv => whnf)
                    refine hX _ ?_; conv => whnf
                    refine ⟨fun q94 => ?_, fun q94 => ?_⟩
                    · try simp (disch := omega) only [bg_w_id, Int.toNat_natCast, rw_land, sh_land, not_true_eq_false, kc0, kc1, kc2, kc3, kc4, kc5, kc6, kc7, kc8, kc9, kc10, kc11, kc12, kc13, kc14, kc15, kc16, kc17, kc18, kc19, kc20, kc21, kc22, kc23, kc24, kc25, kc26, kc27, kc28, kc29, kc30, kc31, kc32, kc33] at q94
                      exact x123 _
                    · exfalso
                      (try simp (disch := omega) only [bg_w_id, Int.toNat_natCast, rw_land, sh_land, not_true_eq_false, kc0, kc1, kc2, kc3, kc4, kc5, kc6, kc7, kc8, kc9, kc10, kc11, kc12, kc13, kc14, kc15, kc16, kc17, kc18, kc19, kc20, kc21, kc22, kc23, kc24, kc25, kc26, kc27, kc28, kc29, kc30, kc31, kc32, kc33] at q94) <;> (omega)
          have go := lw 8 0 0 (by omega) (by omega) o1
          have ne0 : ¬ (m : Int) - (r : Int) = 0 := by omega
          iterate 2 (refine hX _ ?_; conv => whnf)
          refine hX _ ?_; conv => whnf
          refine ⟨fun q53 => ?_, fun q53 => ?_⟩
          · exfalso
            (try simp (disch := omega) only [bg_w_id, Int.toNat_natCast, rw_land, sh_land, not_true_eq_false, kc0, kc1, kc2, kc3, kc4, kc5, kc6, kc7, kc8, kc9, kc10, kc11, kc12, kc13, kc14, kc15, kc16, kc17, kc18, kc19, kc20, kc21, kc22, kc23, kc24, kc25, kc26, kc27, kc28, kc29, kc30, kc31, kc32, kc33] at q53) <;> (omega)
          · try simp (disch := omega) only [bg_w_id, Int.toNat_natCast, rw_land, sh_land, not_true_eq_false, kc0, kc1, kc2, kc3, kc4, kc5, kc6, kc7, kc8, kc9, kc10, kc11, kc12, kc13, kc14, kc15, kc16, kc17, kc18, kc19, kc20, kc21, kc22, kc23, kc24, kc25, kc26, kc27, kc28, kc29, kc30, kc31, kc32, kc33] at q53
            iterate 4 (refine hX _ ?_; conv => whnf)
            refine hX _ ?_; conv => whnf
            refine ⟨by first | omega | decide | (simp (disch := omega) only [bg_w_id, Int.toNat_natCast, rw_land, sh_land, not_true_eq_false]; omega), ?_⟩
            iterate 5 (refine hX _ ?_; conv => whnf)
            refine hX _ ?_; conv => whnf
            refine ⟨by first | omega | decide | (simp (disch := omega) only [bg_w_id, Int.toNat_natCast, rw_land, sh_land, not_true_eq_false]; omega), ?_⟩
            iterate 5 (refine hX _ ?_; conv => whnf)
            rw [e1, e2]
            exact go
      iterate 2 (refine hX _ ?_; conv => whnf)
      refine hX _ ?_; conv => whnf
      refine ⟨fun q34 => ?_, fun q34 => ?_⟩
      · exfalso
        (try simp (disch := omega) only [bg_w_id, Int.toNat_natCast, rw_land, sh_land, not_true_eq_false, kc0, kc1, kc2, kc3, kc4, kc5, kc6, kc7, kc8, kc9, kc10, kc11, kc12, kc13, kc14, kc15, kc16, kc17, kc18, kc19, kc20, kc21, kc22, kc23, kc24, kc25, kc26, kc27, kc28, kc29, kc30, kc31, kc32, kc33] at q34) <;> (omega)
      · try simp (disch := omega) only [bg_w_id, Int.toNat_natCast, rw_land, sh_land, not_true_eq_false, kc0, kc1, kc2, kc3, kc4, kc5, kc6, kc7, kc8, kc9, kc10, kc11, kc12, kc13, kc14, kc15, kc16, kc17, kc18, kc19, kc20, kc21, kc22, kc23, kc24, kc25, kc26, kc27, kc28, kc29, kc30, kc31, kc32, kc33] at q34
        iterate 8 (refine hX _ ?_; conv => whnf)
        exact l2 0 (by omega) _ _ _
  have l0 : ∀ k, k ≤ m + 1 → 2 ≤ k → X (8, [oR 115, oI (m : Int), oL 0, none, oI (fct (k - 1) : Nat), oI (k : Int), none, none, none, none, none, none, none, none], [], (bg_SH n, h), (0, 0)) := by
    refine lp_up (m + 1) _ ?_ (fun k hk ih => ?_)
    · intro hk2
      have := l1 0 (by omega) none none none none none none none
      iterate 2 (refine hX _ ?_; conv => whnf)
      refine hX _ ?_; conv => whnf
      refine ⟨fun q11 => ?_, fun q11 => ?_⟩
      · try simp (disch := omega) only [bg_w_id, Int.toNat_natCast, rw_land, sh_land, not_true_eq_false, kc0, kc1, kc2, kc3, kc4, kc5, kc6, kc7, kc8, kc9, kc10, kc11, kc12, kc13, kc14, kc15, kc16, kc17, kc18, kc19, kc20, kc21, kc22, kc23, kc24, kc25, kc26, kc27, kc28, kc29, kc30, kc31, kc32, kc33] at q11
        iterate 2 (refine hX _ ?_; conv => whnf)
        exact this
      · exfalso
        (try simp (disch := omega) only [bg_w_id, Int.toNat_natCast, rw_land, sh_land, not_true_eq_false, kc0, kc1, kc2, kc3, kc4, kc5, kc6, kc7, kc8, kc9, kc10, kc11, kc12, kc13, kc14, kc15, kc16, kc17, kc18, kc19, kc20, kc21, kc22, kc23, kc24, kc25, kc26, kc27, kc28, kc29, kc30, kc31, kc32, kc33] at q11) <;> (omega)
    · intro hk2
      have ih := ih (by omega)
      rw [show fct (k + 1 - 1) = fct (k - 1) * k by
        rw [show k + 1 - 1 = (k - 1) + 1 by omega]
        show fct (k - 1) * (k - 1 + 1) = _
        rw [show k - 1 + 1 = k by omega], Int.natCast_mul] at ih
      iterate 2 (refine hX _ ?_; conv => whnf)
      refine hX _ ?_; conv => whnf
      refine ⟨fun q11 => ?_, fun q11 => ?_⟩
      · exfalso
        (try simp (disch := omega) only [bg_w_id, Int.toNat_natCast, rw_land, sh_land, not_true_eq_false, kc0, kc1, kc2, kc3, kc4, kc5, kc6, kc7, kc8, kc9, kc10, kc11, kc12, kc13, kc14, kc15, kc16, kc17, kc18, kc19, kc20, kc21, kc22, kc23, kc24, kc25, kc26, kc27, kc28, kc29, kc30, kc31, kc32, kc33] at q11) <;> (omega)
      · try simp (disch := omega) only [bg_w_id, Int.toNat_natCast, rw_land, sh_land, not_true_eq_false, kc0, kc1, kc2, kc3, kc4, kc5, kc6, kc7, kc8, kc9, kc10, kc11, kc12, kc13, kc14, kc15, kc16, kc17, kc18, kc19, kc20, kc21, kc22, kc23, kc24, kc25, kc26, kc27, kc28, kc29, kc30, kc31, kc32, kc33] at q11
        iterate 6 (refine hX _ ?_; conv => whnf)
        exact ih
  iterate 6 (refine hX _ ?_; conv => whnf)
  exact l0 2 (by omega) (by omega)
theorem s_mlayMembers (d n sd s : Nat) (hsd : sd ≤ 1) (hs : s < 16) (h : bg_G) (Rt : bg_R) (hR : ∀ h' : bg_G, (∀ k, k ≠ 137 → h' k = h k) → (∀ j, ¬ (4 * (sd : Int) ≤ j ∧ j < 4 * (sd : Int) + 4) → h' 137 j = h 137 j) → (∀ i : Nat, i < pc 15 s → h' 137 (4 * (sd : Int) + i) = (mb s i : Nat)) → Rt none (bg_SH n, h')) : bg_Ca bg_MS (d + 2) 171 [vR 115, vI sd, vI s] (bg_SH n, h) Rt := by
  refine bg_ca (cd := cd_X9_layMembers) rfl rfl ?_
  intro X hX
  have l1 : ∀ k, k ≤ 4 → ∀ h' : bg_G, (∀ k, k ≠ 137 → h' k = h k) → (∀ j, ¬ (4 * (sd : Int) ≤ j ∧ j < 4 * (sd : Int) + 4) → h' 137 j = h 137 j) → (∀ i : Nat, i < ah s k → h' 137 (4 * (sd : Int) + i) = (mb s i : Nat)) → X (5, [oR 115, oI (sd : Int), oI (s : Int), oI (ah s k : Nat), oI (k : Int)], [], (bg_SH n, h'), (0, 0)) := by
    refine lp_up 4 _ ?_ (fun k hk ih => ?_)
    · intro h' f1 f2 f3
      iterate 2 (refine hX _ ?_; conv => whnf)
      refine hX _ ?_; conv => whnf
      refine ⟨fun q8 => ?_, fun q8 => ?_⟩
      · try simp (disch := omega) only [bg_w_id, Int.toNat_natCast, rw_land, sh_land, not_true_eq_false, kc0, kc1, kc2, kc3, kc4, kc5, kc6, kc7, kc8, kc9, kc10, kc11, kc12, kc13, kc14, kc15, kc16, kc17, kc18, kc19, kc20, kc21, kc22, kc23, kc24, kc25, kc26, kc27, kc28, kc29, kc30, kc31, kc32, kc33] at q8
        refine hX _ ?_; conv => whnf
        exact hR h' f1 f2 (by rw [← ah_4 s hs]; exact f3)
      · exfalso
        (try simp (disch := omega) only [bg_w_id, Int.toNat_natCast, rw_land, sh_land, not_true_eq_false, kc0, kc1, kc2, kc3, kc4, kc5, kc6, kc7, kc8, kc9, kc10, kc11, kc12, kc13, kc14, kc15, kc16, kc17, kc18, kc19, kc20, kc21, kc22, kc23, kc24, kc25, kc26, kc27, kc28, kc29, kc30, kc31, kc32, kc33] at q8) <;> (omega)
    · intro h' f1 f2 f3
      have as := ah_s s hs k hk
      have eb := bt_set hs hk
      have al : ah s k ≤ 3 := by
        have : ∀ s : Nat, s < 16 → ∀ k : Nat, k < 4 → ah s k ≤ 3 := by decide +kernel
        exact this s hs k hk
      by_cases c1 : s.testBit k = true
      · rw [if_pos c1] at eb
        obtain ⟨m1, m2⟩ := as.2 c1
        rw [as.1, if_pos c1] at ih
        iterate 2 (refine hX _ ?_; conv => whnf)
        refine hX _ ?_; conv => whnf
        refine ⟨fun q8 => ?_, fun q8 => ?_⟩
        · exfalso
          (try simp (disch := omega) only [bg_w_id, Int.toNat_natCast, rw_land, sh_land, not_true_eq_false, kc0, kc1, kc2, kc3, kc4, kc5, kc6, kc7, kc8, kc9, kc10, kc11, kc12, kc13, kc14, kc15, kc16, kc17, kc18, kc19, kc20, kc21, kc22, kc23, kc24, kc25, kc26, kc27, kc28, kc29, kc30, kc31, kc32, kc33] at q8) <;> (omega)
        · try simp (disch := omega) only [bg_w_id, Int.toNat_natCast, rw_land, sh_land, not_true_eq_false, kc0, kc1, kc2, kc3, kc4, kc5, kc6, kc7, kc8, kc9, kc10, kc11, kc12, kc13, kc14, kc15, kc16, kc17, kc18, kc19, kc20, kc21, kc22, kc23, kc24, kc25, kc26, kc27, kc28, kc29, kc30, kc31, kc32, kc33] at q8
          iterate 2 (refine hX _ ?_; conv => whnf)
          refine hX _ ?_; conv => whnf
          try simp (disch := omega) only [bg_w_id, Int.toNat_natCast, rw_land, sh_land, not_true_eq_false]
          refine s_has d _ _ _ _ ?_
          rw [eb]
          conv => whnf
          refine hX _ ?_; conv => whnf
          refine ⟨fun q17 => ?_, fun q17 => ?_⟩
          · exfalso
            (try simp (disch := omega) only [bg_w_id, Int.toNat_natCast, rw_land, sh_land, not_true_eq_false, kc0, kc1, kc2, kc3, kc4, kc5, kc6, kc7, kc8, kc9, kc10, kc11, kc12, kc13, kc14, kc15, kc16, kc17, kc18, kc19, kc20, kc21, kc22, kc23, kc24, kc25, kc26, kc27, kc28, kc29, kc30, kc31, kc32, kc33] at q17) <;> (omega)
          · try simp (disch := omega) only [bg_w_id, Int.toNat_natCast, rw_land, sh_land, not_true_eq_false, kc0, kc1, kc2, kc3, kc4, kc5, kc6, kc7, kc8, kc9, kc10, kc11, kc12, kc13, kc14, kc15, kc16, kc17, kc18, kc19, kc20, kc21, kc22, kc23, kc24, kc25, kc26, kc27, kc28, kc29, kc30, kc31, kc32, kc33] at q17
            iterate 8 (refine hX _ ?_; conv => whnf)
            refine hX _ ?_; conv => whnf
            try (simp (disch := omega) only [bg_w_id, Int.toNat_natCast, rw_land, sh_land, not_true_eq_false]; try conv => whnf)
            refine ⟨by first | omega | (simp (disch := omega) only [bg_w_id, Int.toNat_natCast, rw_land, sh_land, not_true_eq_false]; omega), ?_⟩
            iterate 3 (refine hX _ ?_; conv => whnf)
            refine ih _ (fun k hk => by rw [bg_up_ne hk]; exact f1 k hk) (fun j hj => by rw [bg_up_nj (by omega)]; exact f2 j hj) (fun i hi => ?_)
            by_cases e : i = ah s k
            · subst e
              rw [bg_up_self, m1]
            · rw [bg_up_nj (by omega)]
              exact f3 i (by omega)
      · rw [if_neg c1] at eb
        rw [as.1, if_neg c1] at ih
        iterate 2 (refine hX _ ?_; conv => whnf)
        refine hX _ ?_; conv => whnf
        refine ⟨fun q8 => ?_, fun q8 => ?_⟩
        · exfalso
          (try simp (disch := omega) only [bg_w_id, Int.toNat_natCast, rw_land, sh_land, not_true_eq_false, kc0, kc1, kc2, kc3, kc4, kc5, kc6, kc7, kc8, kc9, kc10, kc11, kc12, kc13, kc14, kc15, kc16, kc17, kc18, kc19, kc20, kc21, kc22, kc23, kc24, kc25, kc26, kc27, kc28, kc29, kc30, kc31, kc32, kc33] at q8) <;> (omega)
        · try simp (disch := omega) only [bg_w_id, Int.toNat_natCast, rw_land, sh_land, not_true_eq_false, kc0, kc1, kc2, kc3, kc4, kc5, kc6, kc7, kc8, kc9, kc10, kc11, kc12, kc13, kc14, kc15, kc16, kc17, kc18, kc19, kc20, kc21, kc22, kc23, kc24, kc25, kc26, kc27, kc28, kc29, kc30, kc31, kc32, kc33] at q8
          iterate 2 (refine hX _ ?_; conv => whnf)
          refine hX _ ?_; conv => whnf
          try simp (disch := omega) only [bg_w_id, Int.toNat_natCast, rw_land, sh_land, not_true_eq_false]
          refine s_has d _ _ _ _ ?_
          rw [eb]
          conv => whnf
          refine hX _ ?_; conv => whnf
          refine ⟨fun q17 => ?_, fun q17 => ?_⟩
          · try simp (disch := omega) only [bg_w_id, Int.toNat_natCast, rw_land, sh_land, not_true_eq_false, kc0, kc1, kc2, kc3, kc4, kc5, kc6, kc7, kc8, kc9, kc10, kc11, kc12, kc13, kc14, kc15, kc16, kc17, kc18, kc19, kc20, kc21, kc22, kc23, kc24, kc25, kc26, kc27, kc28, kc29, kc30, kc31, kc32, kc33] at q17
            iterate 2 (refine hX _ ?_; conv => whnf)
            exact ih h' f1 f2 f3
          · exfalso
            (try simp (disch := omega) only [bg_w_id, Int.toNat_natCast, rw_land, sh_land, not_true_eq_false, kc0, kc1, kc2, kc3, kc4, kc5, kc6, kc7, kc8, kc9, kc10, kc11, kc12, kc13, kc14, kc15, kc16, kc17, kc18, kc19, kc20, kc21, kc22, kc23, kc24, kc25, kc26, kc27, kc28, kc29, kc30, kc31, kc32, kc33] at q17) <;> (omega)
  iterate 4 (refine hX _ ?_; conv => whnf)
  have := l1 0 (by omega) h (fun _ _ => rfl) (fun _ _ => rfl) (fun i hi => absurd hi (by rw [ah_0]; omega))
  rw [ah_0] at this
  exact this
