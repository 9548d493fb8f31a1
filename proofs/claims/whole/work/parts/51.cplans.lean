/-! best, fewest, more of the class -/
theorem bsF_spec {ok : Nat → Prop} [DecidablePred ok] {v : Nat → Int} : ∀ n, (bsF ok v n = 0 ∨ (0 < bsF ok v n ∧ bsF ok v n < n ∧ ok (bsF ok v n))) ∧ ∀ s, s < n → (s = 0 ∨ ok s) → v (bsF ok v n) < v s ∨ (v (bsF ok v n) = v s ∧ bsF ok v n ≤ s)
  | 0 => ⟨Or.inl rfl, fun s hs => absurd hs (by omega)⟩
  | n + 1 => by
    obtain ⟨i1, i2⟩ := bsF_spec (ok := ok) (v := v) n
    have e : bsF ok v (n + 1) = if (0 < n ∧ ok n) ∧ v n < v (bsF ok v n) then n else bsF ok v n := rfl
    by_cases c : (0 < n ∧ ok n) ∧ v n < v (bsF ok v n)
    · rw [if_pos c] at e
      rw [e]
      refine ⟨Or.inr ⟨c.1.1, by omega, c.1.2⟩, fun s hs hk => ?_⟩
      by_cases es : s = n
      · subst es; exact Or.inr ⟨rfl, Nat.le_refl _⟩
      · rcases i2 s (by omega) hk with x | x <;> (left; omega)
    · rw [if_neg c] at e
      rw [e]
      refine ⟨?_, fun s hs hk => ?_⟩
      · rcases i1 with x | ⟨x1, x2, x3⟩
        · exact Or.inl x
        · exact Or.inr ⟨x1, by omega, x3⟩
      · by_cases es : s = n
        · subst es
          by_cases e0 : s = 0
          · subst e0
            exact Or.inr ⟨rfl, Nat.zero_le _⟩
          · have hk2 : ok s := by rcases hk with x | x; exact absurd x e0; exact x
            have hv : ¬ v s < v (bsF ok v s) := fun x => c ⟨⟨by omega, hk2⟩, x⟩
            have hb : bsF ok v s ≤ s := by rcases i1 with x | ⟨x1, x2, x3⟩ <;> omega
            omega
        · exact i2 s (by omega) hk
theorem bsF_congr {ok ok' : Nat → Prop} [DecidablePred ok] [DecidablePred ok'] {v : Nat → Int} : ∀ n, (∀ s, s < n → (ok s ↔ ok' s)) → bsF ok v n = bsF ok' v n
  | 0, _ => rfl
  | n + 1, hh => by
    have ih := bsF_congr (v := v) n (fun s hs => hh s (by omega))
    have e : bsF ok v (n + 1) = if (0 < n ∧ ok n) ∧ v n < v (bsF ok v n) then n else bsF ok v n := rfl
    have e' : bsF ok' v (n + 1) = if (0 < n ∧ ok' n) ∧ v n < v (bsF ok' v n) then n else bsF ok' v n := rfl
    rw [e, e', ih]
    have := hh n (by omega)
    by_cases c : (0 < n ∧ ok n) ∧ v n < v (bsF ok' v n)
    · rw [if_pos c, if_pos ⟨⟨c.1.1, this.1 c.1.2⟩, c.2⟩]
    · rw [if_neg c, if_neg (fun x => c ⟨⟨x.1.1, this.2 x.1.2⟩, x.2⟩)]
theorem okN_sets {h : bg_G} (ho : okM h) {s : Nat} (hs : okN h s) : s < setsM h := by
  obtain ⟨a, b, ha, hb, e, ha12, hb8⟩ := okN_ex ho hs
  unfold setsM
  rw [Nat.pow_add]
  omega
theorem sets_32 {h : bg_G} (ho : okM h) : setsM h ≤ 32768 ∧ 1 ≤ setsM h := by
  have h2 := ho.1.2.1
  exact ⟨mt_le (by omega), Nat.one_le_two_pow⟩
/-- the least of all that may be had, and the first of such, is what the model finds -/
theorem bs_is {h : bg_G} (ho : okM h) {coin : Int} (hc : 0 ≤ coin) {v : Nat → Int} {s : Nat} (hs : okN h s) (hcs : costM h s ≤ coin) (hm : ∀ s', okN h s' → costM h s' ≤ coin → v s < v s' ∨ (v s = v s' ∧ s ≤ s')) : bsF (fun s => okS (h 117 0) (h 119 0) (s : Int) ∧ costM h s ≤ coin) v (setsM h) = s := by
  obtain ⟨i1, i2⟩ := bsF_spec (ok := fun s : Nat => okS (h 117 0) (h 119 0) (s : Int) ∧ costM h s ≤ coin) (v := v) (setsM h)
  have h32 := sets_32 ho
  have z : okN h (bsF (fun s => okS (h 117 0) (h 119 0) (s : Int) ∧ costM h s ≤ coin) v (setsM h)) ∧ costM h (bsF (fun s => okS (h 117 0) (h 119 0) (s : Int) ∧ costM h s ≤ coin) v (setsM h) : Nat) ≤ coin := by
    rcases i1 with x | ⟨x1, x2, x3⟩
    · rw [x]
      exact ⟨okN_0 ho, by rw [costM_0]; exact hc⟩
    · exact ⟨⟨x3.1, by omega⟩, x3.2⟩
  have a := i2 s (okN_sets ho hs) (Or.inr ⟨hs.1, hcs⟩)
  have b := hm _ z.1 z.2
  omega
theorem best_full {h h' : bg_G} (ho : okM h) {c : Nat} (hx : fullI h h' c) : h' 51 c = ((bestM h c (setsM h) : Nat) : Int) ∧ h' 52 c = mostM h (bestM h c (setsM h) : Nat) := by
  obtain ⟨s, x1, x2, x3, x4, x5⟩ := hx
  have := bs_is ho (coin := c) (by omega) (v := fun s => mostM h s) x1 x2 x5
  unfold bestM
  rw [this]
  exact ⟨x3, x4⟩
/-- what the plans hold if they are ready -/
def PL (h : bg_G) : Prop := h 46 7 = 0 ∨ (h 46 7 = 1 ∧ PLN h h)
theorem fr45_refl (h : bg_G) : fr45 h h := fun _ _ => rfl
theorem s_cprep (d n : Nat) (h : bg_G) (hr : REL h) (hs : svC h) (hp : PL h) (Rt : bg_R) (hR : ∀ h' : bg_G, fr45 h h' → h' 46 7 = 1 → h' 46 8 = h 46 8 → h' 46 9 = h 46 9 → PLN h h' → Rt none (bg_SH n, h')) : bg_Ca bg_MS (d + 4) 49 [vR 46, vR 22, vR 38] (bg_SH n, h) Rt := by
  rcases hp with x | ⟨x, y⟩
  · exact s_prepare0 d n h hr hs x Rt hR
  · refine bg_ca (cd := cd_X4_prepare) rfl rfl ?_
    intro X hX
    iterate 2 (refine hX _ ?_; conv => whnf)
    try simp only [kc0, kc1, kc2, kc3, kc4, kc5, kc6, kc7, kc8, kc9, kc10, kc11, kc12, kc13, kc14, kc15, kc16, kc17, kc18, kc19, kc20, kc21, kc22, kc23, kc24, kc25, kc26, kc27, kc28, kc29, kc30, kc31, kc32, kc33]
    refine hX _ ?_; conv => whnf
    refine ⟨fun q4 => ?_, fun q4 => ?_⟩
    · exfalso
      (try simp (disch := omega) only [bg_w_id, Int.toNat_natCast, rw_land, sh_land, not_true_eq_false, kc0, kc1, kc2, kc3, kc4, kc5, kc6, kc7, kc8, kc9, kc10, kc11, kc12, kc13, kc14, kc15, kc16, kc17, kc18, kc19, kc20, kc21, kc22, kc23, kc24, kc25, kc26, kc27, kc28, kc29, kc30, kc31, kc32, kc33] at q4) <;> (omega)
    · try simp (disch := omega) only [bg_w_id, Int.toNat_natCast, rw_land, sh_land, not_true_eq_false, kc0, kc1, kc2, kc3, kc4, kc5, kc6, kc7, kc8, kc9, kc10, kc11, kc12, kc13, kc14, kc15, kc16, kc17, kc18, kc19, kc20, kc21, kc22, kc23, kc24, kc25, kc26, kc27, kc28, kc29, kc30, kc31, kc32, kc33] at q4
      refine hX _ ?_; conv => whnf
      exact hR h (fr45_refl h) x rfl rfl y
theorem s_bestFor (d n c : Nat) (hc : c ≤ 300) (h : bg_G) (Rt : bg_R) (hR : Rt (some (.inl (h 51 c))) (bg_SH n, h)) : bg_Ca bg_MS (d + 1) 50 [vR 46, vI c] (bg_SH n, h) Rt := by
  have e1 : (if bg_w 300 < bg_w (c : Int) then (300 : Int) else (c : Int)) = (c : Int) := by
    rw [bg_w_id (by omega) (by omega), bg_w_id (by omega) (by omega), if_neg (by omega)]
  have e2 : (if bg_w 0 < bg_w (c : Int) then (c : Int) else 0) = (c : Int) := by
    rw [bg_w_id (by omega) (by omega), bg_w_id (by omega) (by omega)]; split <;> omega
  refine bg_ca (cd := cd_X4_bestFor) rfl rfl ?_
  intro X hX
  iterate 6 (refine hX _ ?_; conv => whnf)
  rw [e1]
  refine hX _ ?_; conv => whnf
  rw [e2]
  refine hX _ ?_; conv => whnf
  try (simp (disch := omega) only [bg_w_id, Int.toNat_natCast, rw_land, sh_land, not_true_eq_false]; try conv => whnf)
  refine ⟨by first | omega | (simp (disch := omega) only [bg_w_id, Int.toNat_natCast, rw_land, sh_land, not_true_eq_false]; omega), ?_⟩
  refine hX _ ?_; conv => whnf
  exact hR
theorem s_leastFor (d n c : Nat) (hc : c ≤ 300) (x : Int) (hx : x = c ∨ (x = 301 ∧ c = 300)) (h : bg_G) (Rt : bg_R) (hR : Rt (some (.inl (h 52 c))) (bg_SH n, h)) : bg_Ca bg_MS (d + 1) 51 [vR 46, vI x] (bg_SH n, h) Rt := by
  have e1 : (if bg_w 300 < bg_w x then (300 : Int) else x) = (c : Int) := by
    rw [bg_w_id (by omega) (by omega), bg_w_id (by omega) (by omega)]; split <;> omega
  have e2 : (if bg_w 0 < bg_w (c : Int) then (c : Int) else 0) = (c : Int) := by
    rw [bg_w_id (by omega) (by omega), bg_w_id (by omega) (by omega)]; split <;> omega
  refine bg_ca (cd := cd_X4_leastFor) rfl rfl ?_
  intro X hX
  iterate 6 (refine hX _ ?_; conv => whnf)
  rw [e1]
  refine hX _ ?_; conv => whnf
  rw [e2]
  refine hX _ ?_; conv => whnf
  try (simp (disch := omega) only [bg_w_id, Int.toNat_natCast, rw_land, sh_land, not_true_eq_false]; try conv => whnf)
  refine ⟨by first | omega | (simp (disch := omega) only [bg_w_id, Int.toNat_natCast, rw_land, sh_land, not_true_eq_false]; omega), ?_⟩
  refine hX _ ?_; conv => whnf
  exact hR
theorem fr45_REL {h h' : bg_G} (hf : fr45 h h') (hr : REL h) : REL h' := by
  obtain ⟨a1, a2, a3, a4, a5, a6, a7⟩ := hr
  refine ⟨fr45_okC hf a1, okM_fr a2 (hf _ (by omega)) (hf _ (by omega)) (hf _ (by omega)) (hf _ (by omega)) (hf _ (by omega)), ?_, ?_, ?_, ?_, ?_⟩
  · intro t ht
    rw [hf 119 (by omega)] at ht
    rw [hf 120 (by omega), hf 117 (by omega)]
    exact a3 t ht
  · rw [hf 22 (by omega), hf 117 (by omega), hf 119 (by omega), hf 121 (by omega)]
    exact a4
  · intro p hp i h0 h7
    rw [hf 117 (by omega)] at hp
    have hp2 := a2.1.1
    rw [hf (24 + p) (by omega), hf 118 (by omega)]
    exact a5 p hp i h0 h7
  · intro p hp hp2 i h0 h7
    rw [hf 117 (by omega)] at hp
    rw [hf (24 + p) (by omega)]
    exact a6 p hp hp2 i h0 h7
  · intro t ht
    rw [hf 119 (by omega)] at ht
    rw [hf 36 (by omega), hf 37 (by omega), hf 120 (by omega)]
    exact a7 t ht
def bstA (h : bg_G) (c w : Int) : Int := if w = 0 then ((bestM h c (setsM h) : Nat) : Int) else if w = 1 then mostM h (bestM h c (setsM h) : Nat) else costM h (bestM h c (setsM h) : Nat)
theorem s_cbest (d n : Nat) (c w : Int) (hc : i32 c) (hw : i32 w) (h : bg_G) (hr : REL h) (hs : svC h) (hp : PL h) (Rt : bg_R) (hR1 : (0 ≤ c ∧ c ≤ 300) → (0 ≤ w ∧ w ≤ 2) → ∀ h' : bg_G, fr45 h h' → h' 46 7 = 1 → h' 46 8 = h 46 8 → h' 46 9 = h 46 9 → PLN h h' → Rt (some (.inl (bstA h c w))) (bg_SH n, h')) (hR0 : ¬ ((0 ≤ c ∧ c ≤ 300) ∧ (0 ≤ w ∧ w ≤ 2)) → Rt (some (.inl (-1))) (bg_SH n, h)) : bg_Ca bg_MS (d + 5) 88 [vR 2, vI c, vI w] (bg_SH n, h) Rt := by
  have ho := hr.2.1
  refine bg_ca (cd := cd_X8_best) rfl rfl ?_
  intro X hX
  by_cases c1 : (0 ≤ c ∧ c ≤ 300) ∧ (0 ≤ w ∧ w ≤ 2)
  · have hR1 := hR1 c1.1 c1.2
    obtain ⟨k, rfl⟩ : ∃ k : Nat, c = k := ⟨c.toNat, by omega⟩
    unfold bstA at hR1
    refine hX _ ?_; conv => whnf
    refine hX _ ?_; conv => whnf
    refine ⟨fun q1 => ?_, fun q1 => ?_⟩
    · exfalso
      (try simp (disch := omega) only [bg_w_id, Int.toNat_natCast, rw_land, sh_land, not_true_eq_false, kc0, kc1, kc2, kc3, kc4, kc5, kc6, kc7, kc8, kc9, kc10, kc11, kc12, kc13, kc14, kc15, kc16, kc17, kc18, kc19, kc20, kc21, kc22, kc23, kc24, kc25, kc26, kc27, kc28, kc29, kc30, kc31, kc32, kc33] at q1) <;> (omega)
    · try simp (disch := omega) only [bg_w_id, Int.toNat_natCast, rw_land, sh_land, not_true_eq_false, kc0, kc1, kc2, kc3, kc4, kc5, kc6, kc7, kc8, kc9, kc10, kc11, kc12, kc13, kc14, kc15, kc16, kc17, kc18, kc19, kc20, kc21, kc22, kc23, kc24, kc25, kc26, kc27, kc28, kc29, kc30, kc31, kc32, kc33] at q1
      iterate 2 (refine hX _ ?_; conv => whnf)
      refine hX _ ?_; conv => whnf
      refine ⟨fun q8 => ?_, fun q8 => ?_⟩
      · exfalso
        (try simp (disch := omega) only [bg_w_id, Int.toNat_natCast, rw_land, sh_land, not_true_eq_false, kc0, kc1, kc2, kc3, kc4, kc5, kc6, kc7, kc8, kc9, kc10, kc11, kc12, kc13, kc14, kc15, kc16, kc17, kc18, kc19, kc20, kc21, kc22, kc23, kc24, kc25, kc26, kc27, kc28, kc29, kc30, kc31, kc32, kc33] at q8) <;> (omega)
      · try simp (disch := omega) only [bg_w_id, Int.toNat_natCast, rw_land, sh_land, not_true_eq_false, kc0, kc1, kc2, kc3, kc4, kc5, kc6, kc7, kc8, kc9, kc10, kc11, kc12, kc13, kc14, kc15, kc16, kc17, kc18, kc19, kc20, kc21, kc22, kc23, kc24, kc25, kc26, kc27, kc28, kc29, kc30, kc31, kc32, kc33] at q8
        refine hX _ ?_; conv => whnf
        refine hX _ ?_; conv => whnf
        refine ⟨fun q12 => ?_, fun q12 => ?_⟩
        · exfalso
          (try simp (disch := omega) only [bg_w_id, Int.toNat_natCast, rw_land, sh_land, not_true_eq_false, kc0, kc1, kc2, kc3, kc4, kc5, kc6, kc7, kc8, kc9, kc10, kc11, kc12, kc13, kc14, kc15, kc16, kc17, kc18, kc19, kc20, kc21, kc22, kc23, kc24, kc25, kc26, kc27, kc28, kc29, kc30, kc31, kc32, kc33] at q12) <;> (omega)
        · try simp (disch := omega) only [bg_w_id, Int.toNat_natCast, rw_land, sh_land, not_true_eq_false, kc0, kc1, kc2, kc3, kc4, kc5, kc6, kc7, kc8, kc9, kc10, kc11, kc12, kc13, kc14, kc15, kc16, kc17, kc18, kc19, kc20, kc21, kc22, kc23, kc24, kc25, kc26, kc27, kc28, kc29, kc30, kc31, kc32, kc33] at q12
          iterate 2 (refine hX _ ?_; conv => whnf)
          refine hX _ ?_; conv => whnf
          refine ⟨fun q17 => ?_, fun q17 => ?_⟩
          · try simp (disch := omega) only [bg_w_id, Int.toNat_natCast, rw_land, sh_land, not_true_eq_false, kc0, kc1, kc2, kc3, kc4, kc5, kc6, kc7, kc8, kc9, kc10, kc11, kc12, kc13, kc14, kc15, kc16, kc17, kc18, kc19, kc20, kc21, kc22, kc23, kc24, kc25, kc26, kc27, kc28, kc29, kc30, kc31, kc32, kc33] at q17
            iterate 6 (refine hX _ ?_; conv => whnf)
            refine hX _ ?_; conv => whnf
            try simp (disch := omega) only [bg_w_id, Int.toNat_natCast, rw_land, sh_land, not_true_eq_false]
            refine s_cprep d n h hr hs hp _ (fun h' f1 f2 f3 f4 f5 => ?_)
            have hR1 := hR1 h' f1 f2 f3 f4 f5
            have bf := best_full ho (f5.2.2.2 k (by omega))
            have bo := bestM_ok ho (k : Int) (setsM h)
            have s32 := sets_32 ho
            conv => whnf
            iterate 2 (refine hX _ ?_; conv => whnf)
            refine hX _ ?_; conv => whnf
            refine ⟨fun q39 => ?_, fun q39 => ?_⟩
            · try simp (disch := omega) only [bg_w_id, Int.toNat_natCast, rw_land, sh_land, not_true_eq_false, kc0, kc1, kc2, kc3, kc4, kc5, kc6, kc7, kc8, kc9, kc10, kc11, kc12, kc13, kc14, kc15, kc16, kc17, kc18, kc19, kc20, kc21, kc22, kc23, kc24, kc25, kc26, kc27, kc28, kc29, kc30, kc31, kc32, kc33] at q39
              iterate 3 (refine hX _ ?_; conv => whnf)
              refine hX _ ?_; conv => whnf
              try simp (disch := omega) only [bg_w_id, Int.toNat_natCast, rw_land, sh_land, not_true_eq_false]
              refine s_bestFor (d + 3) n k (by omega) h' _ ?_
              rw [bf.1]
              conv => whnf
              iterate 2 (refine hX _ ?_; conv => whnf)
              refine hX _ ?_; conv => whnf
              refine ⟨fun q61 => ?_, fun q61 => ?_⟩
              · try simp (disch := omega) only [bg_w_id, Int.toNat_natCast, rw_land, sh_land, not_true_eq_false, kc0, kc1, kc2, kc3, kc4, kc5, kc6, kc7, kc8, kc9, kc10, kc11, kc12, kc13, kc14, kc15, kc16, kc17, kc18, kc19, kc20, kc21, kc22, kc23, kc24, kc25, kc26, kc27, kc28, kc29, kc30, kc31, kc32, kc33] at q61
                iterate 3 (refine hX _ ?_; conv => whnf)
                refine hX _ ?_; conv => whnf
                try simp (disch := omega) only [bg_w_id, Int.toNat_natCast, rw_land, sh_land, not_true_eq_false]
                refine s_costOf (d + 3) n _ h' _ ?_
                rw [show sm 12 (fun i => bt ((bestM h k (setsM h) : Nat) : Int) i * h' (24 + i) 4) + sm 3 (fun t => bt ((bestM h k (setsM h) : Nat) : Int) (12 + t) * h' 37 t) = costM h (bestM h k (setsM h) : Nat) by
                  rw [← cost_eq hr (by omega) bo.1]
                  unfold costC
                  rw [f1 37 (by omega)]
                  exact congrArg (· + _) (sm_congr (fun p hp => by rw [f1 (24 + p) (by omega)]))]
                conv => whnf
                refine hX _ ?_; conv => whnf
                first
                | (rw [if_pos (by omega)] at hR1; exact hR1)
                | (rw [if_neg (by omega), if_pos (by omega)] at hR1; exact hR1)
                | (rw [if_neg (by omega), if_neg (by omega)] at hR1; exact hR1)
              · try simp (disch := omega) only [bg_w_id, Int.toNat_natCast, rw_land, sh_land, not_true_eq_false, kc0, kc1, kc2, kc3, kc4, kc5, kc6, kc7, kc8, kc9, kc10, kc11, kc12, kc13, kc14, kc15, kc16, kc17, kc18, kc19, kc20, kc21, kc22, kc23, kc24, kc25, kc26, kc27, kc28, kc29, kc30, kc31, kc32, kc33] at q61
                iterate 2 (refine hX _ ?_; conv => whnf)
                refine hX _ ?_; conv => whnf
                first
                | (rw [if_pos (by omega)] at hR1; exact hR1)
                | (rw [if_neg (by omega), if_pos (by omega)] at hR1; exact hR1)
                | (rw [if_neg (by omega), if_neg (by omega)] at hR1; exact hR1)
            · try simp (disch := omega) only [bg_w_id, Int.toNat_natCast, rw_land, sh_land, not_true_eq_false, kc0, kc1, kc2, kc3, kc4, kc5, kc6, kc7, kc8, kc9, kc10, kc11, kc12, kc13, kc14, kc15, kc16, kc17, kc18, kc19, kc20, kc21, kc22, kc23, kc24, kc25, kc26, kc27, kc28, kc29, kc30, kc31, kc32, kc33] at q39
              iterate 3 (refine hX _ ?_; conv => whnf)
              refine hX _ ?_; conv => whnf
              try simp (disch := omega) only [bg_w_id, Int.toNat_natCast, rw_land, sh_land, not_true_eq_false]
              refine s_leastFor (d + 3) n k (by omega) _ (Or.inl rfl) h' _ ?_
              rw [bf.2]
              conv => whnf
              refine hX _ ?_; conv => whnf
              first
              | (rw [if_pos (by omega)] at hR1; exact hR1)
              | (rw [if_neg (by omega), if_pos (by omega)] at hR1; exact hR1)
              | (rw [if_neg (by omega), if_neg (by omega)] at hR1; exact hR1)
          · exfalso
            (try simp (disch := omega) only [bg_w_id, Int.toNat_natCast, rw_land, sh_land, not_true_eq_false, kc0, kc1, kc2, kc3, kc4, kc5, kc6, kc7, kc8, kc9, kc10, kc11, kc12, kc13, kc14, kc15, kc16, kc17, kc18, kc19, kc20, kc21, kc22, kc23, kc24, kc25, kc26, kc27, kc28, kc29, kc30, kc31, kc32, kc33] at q17) <;> (omega)
  · refine hX _ ?_; conv => whnf
    refine hX _ ?_; conv => whnf
    refine ⟨fun q1 => ?_, fun q1 => ?_⟩
    · try simp (disch := omega) only [bg_w_id, Int.toNat_natCast, rw_land, sh_land, not_true_eq_false, kc0, kc1, kc2, kc3, kc4, kc5, kc6, kc7, kc8, kc9, kc10, kc11, kc12, kc13, kc14, kc15, kc16, kc17, kc18, kc19, kc20, kc21, kc22, kc23, kc24, kc25, kc26, kc27, kc28, kc29, kc30, kc31, kc32, kc33] at q1
      refine hX _ ?_; conv => whnf
      refine hX _ ?_; conv => whnf
      exact hR0 c1
    · try simp (disch := omega) only [bg_w_id, Int.toNat_natCast, rw_land, sh_land, not_true_eq_false, kc0, kc1, kc2, kc3, kc4, kc5, kc6, kc7, kc8, kc9, kc10, kc11, kc12, kc13, kc14, kc15, kc16, kc17, kc18, kc19, kc20, kc21, kc22, kc23, kc24, kc25, kc26, kc27, kc28, kc29, kc30, kc31, kc32, kc33] at q1
      iterate 2 (refine hX _ ?_; conv => whnf)
      refine hX _ ?_; conv => whnf
      refine ⟨fun q8 => ?_, fun q8 => ?_⟩
      · try simp (disch := omega) only [bg_w_id, Int.toNat_natCast, rw_land, sh_land, not_true_eq_false, kc0, kc1, kc2, kc3, kc4, kc5, kc6, kc7, kc8, kc9, kc10, kc11, kc12, kc13, kc14, kc15, kc16, kc17, kc18, kc19, kc20, kc21, kc22, kc23, kc24, kc25, kc26, kc27, kc28, kc29, kc30, kc31, kc32, kc33] at q8
        refine hX _ ?_; conv => whnf
        refine hX _ ?_; conv => whnf
        exact hR0 c1
      · try simp (disch := omega) only [bg_w_id, Int.toNat_natCast, rw_land, sh_land, not_true_eq_false, kc0, kc1, kc2, kc3, kc4, kc5, kc6, kc7, kc8, kc9, kc10, kc11, kc12, kc13, kc14, kc15, kc16, kc17, kc18, kc19, kc20, kc21, kc22, kc23, kc24, kc25, kc26, kc27, kc28, kc29, kc30, kc31, kc32, kc33] at q8
        refine hX _ ?_; conv => whnf
        refine hX _ ?_; conv => whnf
        refine ⟨fun q12 => ?_, fun q12 => ?_⟩
        · try simp (disch := omega) only [bg_w_id, Int.toNat_natCast, rw_land, sh_land, not_true_eq_false, kc0, kc1, kc2, kc3, kc4, kc5, kc6, kc7, kc8, kc9, kc10, kc11, kc12, kc13, kc14, kc15, kc16, kc17, kc18, kc19, kc20, kc21, kc22, kc23, kc24, kc25, kc26, kc27, kc28, kc29, kc30, kc31, kc32, kc33] at q12
          refine hX _ ?_; conv => whnf
          refine hX _ ?_; conv => whnf
          exact hR0 c1
        · try simp (disch := omega) only [bg_w_id, Int.toNat_natCast, rw_land, sh_land, not_true_eq_false, kc0, kc1, kc2, kc3, kc4, kc5, kc6, kc7, kc8, kc9, kc10, kc11, kc12, kc13, kc14, kc15, kc16, kc17, kc18, kc19, kc20, kc21, kc22, kc23, kc24, kc25, kc26, kc27, kc28, kc29, kc30, kc31, kc32, kc33] at q12
          iterate 2 (refine hX _ ?_; conv => whnf)
          refine hX _ ?_; conv => whnf
          refine ⟨fun q17 => ?_, fun q17 => ?_⟩
          · try simp (disch := omega) only [bg_w_id, Int.toNat_natCast, rw_land, sh_land, not_true_eq_false, kc0, kc1, kc2, kc3, kc4, kc5, kc6, kc7, kc8, kc9, kc10, kc11, kc12, kc13, kc14, kc15, kc16, kc17, kc18, kc19, kc20, kc21, kc22, kc23, kc24, kc25, kc26, kc27, kc28, kc29, kc30, kc31, kc32, kc33] at q17
            exfalso; omega
          · try simp (disch := omega) only [bg_w_id, Int.toNat_natCast, rw_land, sh_land, not_true_eq_false, kc0, kc1, kc2, kc3, kc4, kc5, kc6, kc7, kc8, kc9, kc10, kc11, kc12, kc13, kc14, kc15, kc16, kc17, kc18, kc19, kc20, kc21, kc22, kc23, kc24, kc25, kc26, kc27, kc28, kc29, kc30, kc31, kc32, kc33] at q17
            refine hX _ ?_; conv => whnf
            refine hX _ ?_; conv => whnf
            exact hR0 c1
theorem s_cmore (d n : Nat) (h : bg_G) (hr : REL h) (hs : svC h) (hp : PL h) (Rt : bg_R) (hR1 : ∀ h' : bg_G, fr45 h h' → h' 46 7 = 1 → h' 46 8 = h 46 8 → h' 46 9 = h 46 9 → PLN h h' → Rt (some (.inl (mostM h (bestM h (h 121 0) (setsM h) : Nat) - mostM h (bestM h (h 121 0 + 1) (setsM h) : Nat)))) (bg_SH n, h')) : bg_Ca bg_MS (d + 5) 90 [vR 2] (bg_SH n, h) Rt := by
  have ho := hr.2.1
  have r5 := hr.2.2.2.1.2.2.1
  have hcr := ho.1.2.2.1
  obtain ⟨k, hk⟩ : ∃ k : Nat, h 121 0 = k := ⟨(h 121 0).toNat, by omega⟩
  obtain ⟨k2, hk2⟩ : ∃ k2 : Nat, k2 ≤ 300 ∧ (((k : Int) + 1 = k2) ∨ ((k : Int) + 1 = 301 ∧ k2 = 300)) := ⟨if k = 300 then 300 else k + 1, by split <;> omega, by split <;> omega⟩
  have eb : bestM h ((k : Int) + 1) (setsM h) = bestM h (k2 : Int) (setsM h) := by
    rcases hk2.2 with e | e
    · rw [e]
    · refine bsF_congr _ (fun s hs => ?_)
      have := costM_rg ho (s : Int)
      constructor
      · exact fun x => ⟨x.1, by omega⟩
      · exact fun x => ⟨x.1, by omega⟩
  rw [hk, eb] at hR1
  refine bg_ca (cd := cd_X8_more) rfl rfl ?_
  intro X hX
  iterate 6 (refine hX _ ?_; conv => whnf)
  refine hX _ ?_; conv => whnf
  try simp (disch := omega) only [bg_w_id, Int.toNat_natCast, rw_land, sh_land, not_true_eq_false]
  refine s_cprep d n h hr hs hp _ (fun h' f1 f2 f3 f4 f5 => ?_)
  have hR1 := hR1 h' f1 f2 f3 f4 f5
  have bf := best_full ho (f5.2.2.2 k (by omega))
  have bf2 := best_full ho (f5.2.2.2 k2 (by omega))
  have e22 : h' 22 5 = (k : Int) := by rw [f1 22 (by omega), r5, hk]
  conv => whnf
  iterate 5 (refine hX _ ?_; conv => whnf)
  try simp only [kc0, kc1, kc2, kc3, kc4, kc5, kc6, kc7, kc8, kc9, kc10, kc11, kc12, kc13, kc14, kc15, kc16, kc17, kc18, kc19, kc20, kc21, kc22, kc23, kc24, kc25, kc26, kc27, kc28, kc29, kc30, kc31, kc32, kc33]
  refine hX _ ?_; conv => whnf
  try simp (disch := omega) only [bg_w_id, Int.toNat_natCast, rw_land, sh_land, not_true_eq_false]
  rw [e22]
  refine s_leastFor (d + 3) n k (by omega) _ (Or.inl rfl) h' _ ?_
  rw [bf.2]
  conv => whnf
  iterate 7 (refine hX _ ?_; conv => whnf)
  try simp only [kc0, kc1, kc2, kc3, kc4, kc5, kc6, kc7, kc8, kc9, kc10, kc11, kc12, kc13, kc14, kc15, kc16, kc17, kc18, kc19, kc20, kc21, kc22, kc23, kc24, kc25, kc26, kc27, kc28, kc29, kc30, kc31, kc32, kc33]
  refine hX _ ?_; conv => whnf
  try simp (disch := omega) only [bg_w_id, Int.toNat_natCast, rw_land, sh_land, not_true_eq_false]
  rw [e22]
  refine s_leastFor (d + 3) n k2 hk2.1 _ hk2.2 h' _ ?_
  rw [bf2.2]
  conv => whnf
  refine hX _ ?_; conv => whnf
  refine hX _ ?_; conv => whnf
  exact hR1
theorem fwF_spec {ok : Nat → Prop} [DecidablePred ok] {v : Nat → Int} (hv : ∀ s, 0 ≤ v s) : ∀ n, (fwF ok v n = -4 ∧ ∀ s, s < n → ¬ ok s) ∨ (∃ s, s < n ∧ ok s ∧ fwF ok v n = v s ∧ ∀ s', s' < n → ok s' → v s ≤ v s')
  | 0 => Or.inl ⟨rfl, fun s hs => absurd hs (by omega)⟩
  | n + 1 => by
    have ih := fwF_spec (ok := ok) hv n
    have e : fwF ok v (n + 1) = if ok n then (if fwF ok v n = -4 ∨ v n < fwF ok v n then v n else fwF ok v n) else fwF ok v n := rfl
    by_cases c : ok n
    · rw [if_pos c] at e
      right
      rcases ih with ⟨i1, i2⟩ | ⟨s, i1, i2, i3, i4⟩
      · rw [if_pos (Or.inl i1)] at e
        refine ⟨n, by omega, c, e, fun s' hs' hk => ?_⟩
        by_cases es : s' = n
        · subst es; omega
        · exact absurd hk (i2 s' (by omega))
      · have := hv s
        by_cases c2 : v n < fwF ok v n
        · rw [if_pos (Or.inr c2)] at e
          refine ⟨n, by omega, c, e, fun s' hs' hk => ?_⟩
          by_cases es : s' = n
          · subst es; omega
          · have := i4 s' (by omega) hk
            omega
        · rw [if_neg (by omega)] at e
          refine ⟨s, by omega, i2, by omega, fun s' hs' hk => ?_⟩
          by_cases es : s' = n
          · subst es; omega
          · exact i4 s' (by omega) hk
    · rw [if_neg c] at e
      rcases ih with ⟨i1, i2⟩ | ⟨s, i1, i2, i3, i4⟩
      · refine Or.inl ⟨by omega, fun s hs hk => ?_⟩
        by_cases es : s = n
        · subst es; exact c hk
        · exact i2 s (by omega) hk
      · refine Or.inr ⟨s, by omega, i2, by omega, fun s' hs' hk => ?_⟩
        by_cases es : s' = n
        · subst es; exact absurd hk c
        · exact i4 s' (by omega) hk
theorem s_cfewest (d n : Nat) (l : Int) (hl : i32 l) (h : bg_G) (hr : REL h) (hs : svC h) (hp : PL h) (Rt : bg_R) (hR1 : (0 ≤ l ∧ l ≤ 9999) → ∀ h' : bg_G, fr45 h h' → h' 46 7 = 1 → h' 46 8 = h 46 8 → h' 46 9 = h 46 9 → PLN h h' → Rt (some (.inl (fewM h l (setsM h)))) (bg_SH n, h')) (hR0 : ¬ (0 ≤ l ∧ l ≤ 9999) → Rt (some (.inl (-1))) (bg_SH n, h)) : bg_Ca bg_MS (d + 5) 89 [vR 2, vI l] (bg_SH n, h) Rt := by
  have ho := hr.2.1
  have s32 := sets_32 ho
  have fs := fwF_spec (ok := fun s : Nat => okS (h 117 0) (h 119 0) (s : Int) ∧ mostM h s ≤ l) (v := fun s => costM h s) (fun s => (costM_rg ho _).1) (setsM h)
  refine bg_ca (cd := cd_X8_fewest) rfl rfl ?_
  intro X hX
  by_cases c1 : 0 ≤ l ∧ l ≤ 9999
  · have hR1 := hR1 c1
    unfold fewM at hR1
    have l1 : ∀ h' : bg_G, fr45 h h' → h' 46 7 = 1 → h' 46 8 = h 46 8 → h' 46 9 = h 46 9 → PLN h h' → ∀ k : Nat, k ≤ 301 → (∀ k' : Nat, k' < k → ¬ h' 52 k' ≤ l) → X (30, [oR 2, oI l, oI (k : Int)], [], (bg_SH n, h'), (0, 0)) := by
      intro h' f1 f2 f3 f4 f5
      have hR1 := hR1 h' f1 f2 f3 f4 f5
      have key : ∀ s, okN h s → ∃ c : Nat, c ≤ 300 ∧ costM h s = c ∧ h' 52 c ≤ mostM h s := fun s hk => by
        have r := costM_rg ho (s : Int)
        obtain ⟨c, hc⟩ : ∃ c : Nat, costM h s = c := ⟨(costM h s).toNat, by omega⟩
        obtain ⟨s2, y1, y2, y3, y4, y5⟩ := f5.2.2.2 c (by omega)
        refine ⟨c, by omega, hc, ?_⟩
        have := y5 s hk (by omega)
        omega
      refine lp_up 301 _ ?_ (fun k hk ih => ?_)
      · intro hn
        iterate 2 (refine hX _ ?_; conv => whnf)
        refine hX _ ?_; conv => whnf
        refine ⟨fun q34 => ?_, fun q34 => ?_⟩
        · try simp (disch := omega) only [bg_w_id, Int.toNat_natCast, rw_land, sh_land, not_true_eq_false, kc0, kc1, kc2, kc3, kc4, kc5, kc6, kc7, kc8, kc9, kc10, kc11, kc12, kc13, kc14, kc15, kc16, kc17, kc18, kc19, kc20, kc21, kc22, kc23, kc24, kc25, kc26, kc27, kc28, kc29, kc30, kc31, kc32, kc33] at q34
          refine hX _ ?_; conv => whnf
          refine hX _ ?_; conv => whnf
          rcases fs with ⟨a1, a2⟩ | ⟨s, a1, a2, a3, a4⟩
          · rw [a1] at hR1
            exact hR1
          · exfalso
            obtain ⟨c, y1, y2, y3⟩ := key s ⟨a2.1, by omega⟩
            have := hn c (by omega)
            have := a2.2
            omega
        · exfalso
          (try simp (disch := omega) only [bg_w_id, Int.toNat_natCast, rw_land, sh_land, not_true_eq_false, kc0, kc1, kc2, kc3, kc4, kc5, kc6, kc7, kc8, kc9, kc10, kc11, kc12, kc13, kc14, kc15, kc16, kc17, kc18, kc19, kc20, kc21, kc22, kc23, kc24, kc25, kc26, kc27, kc28, kc29, kc30, kc31, kc32, kc33] at q34) <;> (omega)
      · intro hn
        obtain ⟨s2, y1, y2, y3, y4, y5⟩ := f5.2.2.2 k (by omega)
        have rm := mostM_rg ho (s2 : Int)
        iterate 2 (refine hX _ ?_; conv => whnf)
        refine hX _ ?_; conv => whnf
        refine ⟨fun q34 => ?_, fun q34 => ?_⟩
        · exfalso
          (try simp (disch := omega) only [bg_w_id, Int.toNat_natCast, rw_land, sh_land, not_true_eq_false, kc0, kc1, kc2, kc3, kc4, kc5, kc6, kc7, kc8, kc9, kc10, kc11, kc12, kc13, kc14, kc15, kc16, kc17, kc18, kc19, kc20, kc21, kc22, kc23, kc24, kc25, kc26, kc27, kc28, kc29, kc30, kc31, kc32, kc33] at q34) <;> (omega)
        · try simp (disch := omega) only [bg_w_id, Int.toNat_natCast, rw_land, sh_land, not_true_eq_false, kc0, kc1, kc2, kc3, kc4, kc5, kc6, kc7, kc8, kc9, kc10, kc11, kc12, kc13, kc14, kc15, kc16, kc17, kc18, kc19, kc20, kc21, kc22, kc23, kc24, kc25, kc26, kc27, kc28, kc29, kc30, kc31, kc32, kc33] at q34
          iterate 3 (refine hX _ ?_; conv => whnf)
          refine hX _ ?_; conv => whnf
          try simp (disch := omega) only [bg_w_id, Int.toNat_natCast, rw_land, sh_land, not_true_eq_false]
          refine s_leastFor (d + 3) n k (by omega) _ (Or.inl rfl) h' _ ?_
          rw [y4]
          conv => whnf
          refine hX _ ?_; conv => whnf
          refine hX _ ?_; conv => whnf
          refine ⟨fun q46 => ?_, fun q46 => ?_⟩
          · try simp (disch := omega) only [bg_w_id, Int.toNat_natCast, rw_land, sh_land, not_true_eq_false, kc0, kc1, kc2, kc3, kc4, kc5, kc6, kc7, kc8, kc9, kc10, kc11, kc12, kc13, kc14, kc15, kc16, kc17, kc18, kc19, kc20, kc21, kc22, kc23, kc24, kc25, kc26, kc27, kc28, kc29, kc30, kc31, kc32, kc33] at q46
            iterate 2 (refine hX _ ?_; conv => whnf)
            refine ih (fun k' hk' => ?_)
            by_cases e : k' = k
            · subst e; omega
            · exact hn k' (by omega)
          · try simp (disch := omega) only [bg_w_id, Int.toNat_natCast, rw_land, sh_land, not_true_eq_false, kc0, kc1, kc2, kc3, kc4, kc5, kc6, kc7, kc8, kc9, kc10, kc11, kc12, kc13, kc14, kc15, kc16, kc17, kc18, kc19, kc20, kc21, kc22, kc23, kc24, kc25, kc26, kc27, kc28, kc29, kc30, kc31, kc32, kc33] at q46
            refine hX _ ?_; conv => whnf
            refine hX _ ?_; conv => whnf
            rcases fs with ⟨a1, a2⟩ | ⟨s, a1, a2, a3, a4⟩
            · exact absurd ⟨y1.1, by omega⟩ (a2 s2 (okN_sets ho y1))
            · obtain ⟨c, z1, z2, z3⟩ := key s ⟨a2.1, by omega⟩
              have z4 := a4 s2 (okN_sets ho y1) ⟨y1.1, by omega⟩
              have z5 := a2.2
              have z6 : ¬ c < k := fun x => hn c x (by omega)
              have z7 : costM h s = (k : Int) := by
                have z4 : costM h s ≤ costM h s2 := z4
                omega
              rw [a3, z7] at hR1
              exact hR1
    refine hX _ ?_; conv => whnf
    refine hX _ ?_; conv => whnf
    refine ⟨fun q1 => ?_, fun q1 => ?_⟩
    · exfalso
      (try simp (disch := omega) only [bg_w_id, Int.toNat_natCast, rw_land, sh_land, not_true_eq_false, kc0, kc1, kc2, kc3, kc4, kc5, kc6, kc7, kc8, kc9, kc10, kc11, kc12, kc13, kc14, kc15, kc16, kc17, kc18, kc19, kc20, kc21, kc22, kc23, kc24, kc25, kc26, kc27, kc28, kc29, kc30, kc31, kc32, kc33] at q1) <;> (omega)
    · try simp (disch := omega) only [bg_w_id, Int.toNat_natCast, rw_land, sh_land, not_true_eq_false, kc0, kc1, kc2, kc3, kc4, kc5, kc6, kc7, kc8, kc9, kc10, kc11, kc12, kc13, kc14, kc15, kc16, kc17, kc18, kc19, kc20, kc21, kc22, kc23, kc24, kc25, kc26, kc27, kc28, kc29, kc30, kc31, kc32, kc33] at q1
      iterate 2 (refine hX _ ?_; conv => whnf)
      refine hX _ ?_; conv => whnf
      refine ⟨fun q8 => ?_, fun q8 => ?_⟩
      · try simp (disch := omega) only [bg_w_id, Int.toNat_natCast, rw_land, sh_land, not_true_eq_false, kc0, kc1, kc2, kc3, kc4, kc5, kc6, kc7, kc8, kc9, kc10, kc11, kc12, kc13, kc14, kc15, kc16, kc17, kc18, kc19, kc20, kc21, kc22, kc23, kc24, kc25, kc26, kc27, kc28, kc29, kc30, kc31, kc32, kc33] at q8
        iterate 6 (refine hX _ ?_; conv => whnf)
        refine hX _ ?_; conv => whnf
        try simp (disch := omega) only [bg_w_id, Int.toNat_natCast, rw_land, sh_land, not_true_eq_false]
        refine s_cprep d n h hr hs hp _ (fun h' f1 f2 f3 f4 f5 => ?_)
        conv => whnf
        iterate 2 (refine hX _ ?_; conv => whnf)
        exact l1 h' f1 f2 f3 f4 f5 0 (by omega) (fun k' hk' => absurd hk' (by omega))
      · exfalso
        (try simp (disch := omega) only [bg_w_id, Int.toNat_natCast, rw_land, sh_land, not_true_eq_false, kc0, kc1, kc2, kc3, kc4, kc5, kc6, kc7, kc8, kc9, kc10, kc11, kc12, kc13, kc14, kc15, kc16, kc17, kc18, kc19, kc20, kc21, kc22, kc23, kc24, kc25, kc26, kc27, kc28, kc29, kc30, kc31, kc32, kc33] at q8) <;> (omega)
  · refine hX _ ?_; conv => whnf
    refine hX _ ?_; conv => whnf
    refine ⟨fun q1 => ?_, fun q1 => ?_⟩
    · try simp (disch := omega) only [bg_w_id, Int.toNat_natCast, rw_land, sh_land, not_true_eq_false, kc0, kc1, kc2, kc3, kc4, kc5, kc6, kc7, kc8, kc9, kc10, kc11, kc12, kc13, kc14, kc15, kc16, kc17, kc18, kc19, kc20, kc21, kc22, kc23, kc24, kc25, kc26, kc27, kc28, kc29, kc30, kc31, kc32, kc33] at q1
      refine hX _ ?_; conv => whnf
      refine hX _ ?_; conv => whnf
      exact hR0 c1
    · try simp (disch := omega) only [bg_w_id, Int.toNat_natCast, rw_land, sh_land, not_true_eq_false, kc0, kc1, kc2, kc3, kc4, kc5, kc6, kc7, kc8, kc9, kc10, kc11, kc12, kc13, kc14, kc15, kc16, kc17, kc18, kc19, kc20, kc21, kc22, kc23, kc24, kc25, kc26, kc27, kc28, kc29, kc30, kc31, kc32, kc33] at q1
      iterate 2 (refine hX _ ?_; conv => whnf)
      refine hX _ ?_; conv => whnf
      refine ⟨fun q8 => ?_, fun q8 => ?_⟩
      · try simp (disch := omega) only [bg_w_id, Int.toNat_natCast, rw_land, sh_land, not_true_eq_false, kc0, kc1, kc2, kc3, kc4, kc5, kc6, kc7, kc8, kc9, kc10, kc11, kc12, kc13, kc14, kc15, kc16, kc17, kc18, kc19, kc20, kc21, kc22, kc23, kc24, kc25, kc26, kc27, kc28, kc29, kc30, kc31, kc32, kc33] at q8
        exfalso; omega
      · try simp (disch := omega) only [bg_w_id, Int.toNat_natCast, rw_land, sh_land, not_true_eq_false, kc0, kc1, kc2, kc3, kc4, kc5, kc6, kc7, kc8, kc9, kc10, kc11, kc12, kc13, kc14, kc15, kc16, kc17, kc18, kc19, kc20, kc21, kc22, kc23, kc24, kc25, kc26, kc27, kc28, kc29, kc30, kc31, kc32, kc33] at q8
        refine hX _ ?_; conv => whnf
        refine hX _ ?_; conv => whnf
        exact hR0 c1
