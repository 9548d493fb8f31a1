/-! the model's tables of what comes through, and the best posts -/
theorem wls_le {f g : Nat → Int} : ∀ (n c : Nat), c < n → (wls f g n).1 ≤ f c
  | 0, c, h => absurd h (by omega)
  | n + 1, c, h => by
    unfold wls
    by_cases e : c = n
    · subst e
      split
      · exact Int.le_refl _
      · omega
    · have ih := wls_le (f := f) (g := g) n c (by omega)
      split
      · show f n ≤ f c; omega
      · exact ih
theorem cutM_rg {N : Nat} {A B cap : Nat → Int} {T : Nat} (hN : N ≤ 12) (hc : ∀ p, p < N → 0 ≤ cap p ∧ cap p ≤ 100) : 0 ≤ cutM N A B cap T ∧ cutM N A B cap T ≤ 1200 := by
  have := sm_rg (n := N) (f := fun p => if bt T (A p) = 1 then if bt T (B p) = 1 then 0 else cap p else 0) (B := 100) (fun p hp => by
    have := hc p hp
    show 0 ≤ (if bt T (A p) = 1 then if bt T (B p) = 1 then 0 else cap p else 0) ∧ (if bt T (A p) = 1 then if bt T (B p) = 1 then 0 else cap p else 0) ≤ 100
    split
    · split <;> omega
    · omega)
  unfold cutM
  omega
theorem mcT_rg {N : Nat} {A B cap : Nat → Int} (hN : N ≤ 12) (hc : ∀ p, p < N → 0 ≤ cap p ∧ cap p ≤ 100) : 0 ≤ (mcT N A B cap).1 ∧ (mcT N A B cap).1 ≤ 1200 := by
  have h1 := (wls_rg (f := fun c => cutM N A B cap (2 * c + 1)) (g := plc) (N := 64) (fun c _ => by have := cutM_rg (A := A) (B := B) (T := 2 * c + 1) hN hc; show 0 ≤ cutM N A B cap (2 * c + 1) ∧ cutM N A B cap (2 * c + 1) ≤ 2147483647; omega) 64 (Nat.le_refl _)).1
  have h2 := wls_le (f := fun c => cutM N A B cap (2 * c + 1)) (g := plc) 64 0 (by omega)
  have h3 := cutM_rg (A := A) (B := B) (T := 2 * 0 + 1) hN hc
  unfold mcT
  omega
theorem mcM_rg {h : bg_G} (ho : okM h) (held one : Int) : 0 ≤ (mcM h held one).1 ∧ (mcM h held one).1 ≤ 1200 := by
  have hn := ho.1.1
  exact mcT_rg (by omega) (fun p hp => brM_rg ho (by omega))
def lieM (h : bg_G) : Prop := h 115 12 = 0 ∨ (h 115 12 = 1 ∧ ∀ m : Nat, m < 2 ^ (h 117 0).toNat → h 126 m = (mcM h m (-4)).1)
def frM (h h' : bg_G) : Prop := (∀ k, k ≠ 115 → k ≠ 126 → k ≠ 130 → k ≠ 131 → k ≠ 132 → h' k = h k) ∧ (∀ j, j ≠ 12 → j ≠ 23 → h' 115 j = h 115 j) ∧ lieM h'
theorem frM_refl {h : bg_G} (hl : lieM h) : frM h h := ⟨fun _ _ _ _ _ _ => rfl, fun _ _ _ => rfl, hl⟩
theorem frM_trans {h h' h2 : bg_G} (h1 : frM h h') (h3 : frM h' h2) : frM h h2 := ⟨fun k a b c d e => by rw [h3.1 k a b c d e, h1.1 k a b c d e], fun j a b => by rw [h3.2.1 j a b, h1.2.1 j a b], h3.2.2⟩
theorem frM_ok {h h' : bg_G} (hf : frM h h') (ho : okM h) : okM h' := okM_fr ho (hf.1 _ (by omega) (by omega) (by omega) (by omega) (by omega)) (hf.1 _ (by omega) (by omega) (by omega) (by omega) (by omega)) (hf.1 _ (by omega) (by omega) (by omega) (by omega) (by omega)) (hf.1 _ (by omega) (by omega) (by omega) (by omega) (by omega)) (hf.1 _ (by omega) (by omega) (by omega) (by omega) (by omega))
def costM (h : bg_G) (s : Int) : Int := sm 12 (fun i => bt s i * h 118 (7 * i + 4)) + sm 3 (fun t => bt s (12 + t) * h 120 (3 * t + 2))
def mostM (h : bg_G) (s : Int) : Int := (mcM h (heldM h s) (-4)).1
theorem heldM_fr {h h' : bg_G} {s : Int} (e : h' 120 = h 120) : heldM h' s = heldM h s := by unfold heldM; rw [e]
theorem frM_held {h h' : bg_G} (hf : frM h h') (s : Int) : heldM h' s = heldM h s := heldM_fr (hf.1 _ (by omega) (by omega) (by omega) (by omega) (by omega))
theorem frM_most {h h' : bg_G} (hf : frM h h') (s : Int) : mostM h' s = mostM h s := by
  unfold mostM
  rw [frM_held hf, mcM_fr (hf.1 _ (by omega) (by omega) (by omega) (by omega) (by omega)) (hf.1 _ (by omega) (by omega) (by omega) (by omega) (by omega))]
theorem frM_cost {h h' : bg_G} (hf : frM h h') (s : Int) : costM h' s = costM h s := by
  unfold costM
  rw [hf.1 118 (by omega) (by omega) (by omega) (by omega) (by omega), hf.1 120 (by omega) (by omega) (by omega) (by omega) (by omega)]
theorem s_mmostBy (d n : Nat) (s : Int) (h : bg_G) (ho : okM h) (hl : lieM h) (hh : ∃ m : Nat, m < 2 ^ (h 117 0).toNat ∧ heldM h s = m) (Rt : bg_R) (hR : ∀ h' : bg_G, frM h h' → Rt (some (.inl (mostM h s))) (bg_SH n, h')) : bg_Ca bg_MS (d + 4) 140 [vR 115, vI s] (bg_SH n, h) Rt := by
  have hn := ho.1.1
  obtain ⟨N, hN⟩ : ∃ N : Nat, (N : Int) = h 117 0 := ⟨(h 117 0).toNat, by omega⟩
  have hN2 : (h 117 0).toNat = N := by omega
  obtain ⟨M, hM⟩ : ∃ M : Nat, M = 2 ^ N := ⟨_, rfl⟩
  have hM2 : M ≤ 4096 := by rw [hM]; exact (show 2 ^ N ≤ 2 ^ 12 from Nat.pow_le_pow_right (by decide) (by omega))
  have eM : bg_shl 1 (N : Int) = (M : Int) := by rw [bn_bit (by omega), hM]
  obtain ⟨m, hm, em⟩ := hh
  rw [hN2, ← hM] at hm
  refine bg_ca (cd := cd_X9_mostBy) rfl rfl ?_
  intro X hX
  have fin : ∀ (h' : bg_G) (j2 j3 : Option bg_V), (∀ k, k ≠ 115 → k ≠ 126 → k ≠ 130 → k ≠ 131 → k ≠ 132 → h' k = h k) → (∀ j, j ≠ 12 → j ≠ 23 → h' 115 j = h 115 j) → h' 115 12 = 1 → (∀ m : Nat, m < M → h' 126 m = (mcM h m (-4)).1) → X (47, [oR 115, oI s, j2, j3], [], (bg_SH n, h'), (0, 0)) := by
    intro h' j2 j3 f1 f2 f3 f4
    have e116 := f1 117 (by omega) (by omega) (by omega) (by omega) (by omega)
    have e117 := f1 118 (by omega) (by omega) (by omega) (by omega) (by omega)
    have e119 := f1 120 (by omega) (by omega) (by omega) (by omega) (by omega)
    have hR := hR h' ⟨f1, f2, Or.inr ⟨f3, fun m hm => by rw [mcM_fr e116 e117]; rw [e116, hN2, ← hM] at hm; exact f4 m hm⟩⟩
    unfold mostM at hR
    rw [em, ← f4 m hm] at hR
    iterate 4 (refine hX _ ?_; conv => whnf)
    refine hX _ ?_; conv => whnf
    try simp (disch := omega) only [bg_w_id, Int.toNat_natCast, rw_land, sh_land, not_true_eq_false, em]
    refine s_mheldBy (d + 1) _ _ _ _ ?_
    rw [heldM_fr e119, em]
    conv => whnf
    refine hX _ ?_; conv => whnf
    try (simp (disch := omega) only [bg_w_id, Int.toNat_natCast, rw_land, sh_land, not_true_eq_false, em]; try conv => whnf)
    refine ⟨by first | omega | (simp (disch := omega) only [bg_w_id, Int.toNat_natCast, rw_land, sh_land, not_true_eq_false, em]; omega), ?_⟩
    refine hX _ ?_; conv => whnf
    exact hR
  have l1 : ∀ q, q ≤ M → ∀ h' : bg_G, (∀ k, k ≠ 115 → k ≠ 126 → k ≠ 130 → k ≠ 131 → k ≠ 132 → h' k = h k) → (∀ j, j ≠ 12 → j ≠ 23 → h' 115 j = h 115 j) → (∀ m : Nat, m < q → h' 126 m = (mcM h m (-4)).1) → X (18, [oR 115, oI s, oI (M : Int), oI (q : Int)], [], (bg_SH n, h'), (0, 0)) := by
    refine lp_up M _ ?_ (fun q hq ih => ?_)
    · intro h' f1 f2 f3
      iterate 2 (refine hX _ ?_; conv => whnf)
      refine hX _ ?_; conv => whnf
      refine ⟨fun q20 => ?_, fun q20 => ?_⟩
      · try simp (disch := omega) only [bg_w_id, Int.toNat_natCast, rw_land, sh_land, not_true_eq_false, kc0, kc1, kc2, kc3, kc4, kc5, kc6, kc7, kc8, kc9, kc10, kc11, kc12, kc13, kc14, kc15, kc16, kc17, kc18, kc19, kc20, kc21, kc22, kc23, kc24, kc25, kc26, kc27, kc28, kc29, kc30, kc31, kc32, kc33] at q20
        iterate 2 (refine hX _ ?_; conv => whnf)
        refine hX _ ?_; conv => whnf
        refine ⟨by first | exact Or.inr rfl | exact Or.inl rfl | omega, ?_⟩
        try simp only [kc0, kc1, kc2, kc3, kc4, kc5, kc6, kc7, kc8, kc9, kc10, kc11, kc12, kc13, kc14, kc15, kc16, kc17, kc18, kc19, kc20, kc21, kc22, kc23, kc24, kc25, kc26, kc27, kc28, kc29, kc30, kc31, kc32, kc33]
        refine fin _ _ _ (fun k a b c d e => by rw [bg_up_ne a]; exact f1 k a b c d e) (fun j a b => by rw [bg_up_nj a]; exact f2 j a b) (bg_up_self _ _ _ _) (fun m hm => by rw [bg_up_ne (by omega)]; exact f3 m hm)
      · exfalso
        (try simp (disch := omega) only [bg_w_id, Int.toNat_natCast, rw_land, sh_land, not_true_eq_false, kc0, kc1, kc2, kc3, kc4, kc5, kc6, kc7, kc8, kc9, kc10, kc11, kc12, kc13, kc14, kc15, kc16, kc17, kc18, kc19, kc20, kc21, kc22, kc23, kc24, kc25, kc26, kc27, kc28, kc29, kc30, kc31, kc32, kc33] at q20) <;> (omega)
    · intro h' f1 f2 f3
      have e116 := f1 117 (by omega) (by omega) (by omega) (by omega) (by omega)
      have e117 := f1 118 (by omega) (by omega) (by omega) (by omega) (by omega)
      have ho' : okM h' := okM_fr ho e116 e117 (f1 _ (by omega) (by omega) (by omega) (by omega) (by omega)) (f1 _ (by omega) (by omega) (by omega) (by omega) (by omega)) (f1 _ (by omega) (by omega) (by omega) (by omega) (by omega))
      iterate 2 (refine hX _ ?_; conv => whnf)
      refine hX _ ?_; conv => whnf
      refine ⟨fun q20 => ?_, fun q20 => ?_⟩
      · exfalso
        (try simp (disch := omega) only [bg_w_id, Int.toNat_natCast, rw_land, sh_land, not_true_eq_false, kc0, kc1, kc2, kc3, kc4, kc5, kc6, kc7, kc8, kc9, kc10, kc11, kc12, kc13, kc14, kc15, kc16, kc17, kc18, kc19, kc20, kc21, kc22, kc23, kc24, kc25, kc26, kc27, kc28, kc29, kc30, kc31, kc32, kc33] at q20) <;> (omega)
      · try simp (disch := omega) only [bg_w_id, Int.toNat_natCast, rw_land, sh_land, not_true_eq_false, kc0, kc1, kc2, kc3, kc4, kc5, kc6, kc7, kc8, kc9, kc10, kc11, kc12, kc13, kc14, kc15, kc16, kc17, kc18, kc19, kc20, kc21, kc22, kc23, kc24, kc25, kc26, kc27, kc28, kc29, kc30, kc31, kc32, kc33] at q20
        iterate 6 (refine hX _ ?_; conv => whnf)
        refine hX _ ?_; conv => whnf
        try simp (disch := omega) only [bg_w_id, Int.toNat_natCast, rw_land, sh_land, not_true_eq_false]
        refine s_mflow2 d n q (-4) h' ho' (by omega) _ (fun h2 g1 g2 g3 g4 g5 => ?_)
        rw [mcM_fr e116 e117]
        conv => whnf
        refine hX _ ?_; conv => whnf
        try (simp (disch := omega) only [bg_w_id, Int.toNat_natCast, rw_land, sh_land, not_true_eq_false]; try conv => whnf)
        refine ⟨by first | omega | (simp (disch := omega) only [bg_w_id, Int.toNat_natCast, rw_land, sh_land, not_true_eq_false]; omega), ?_⟩
        iterate 2 (refine hX _ ?_; conv => whnf)
        refine ih _ (fun k a b c d e => ?_) (fun j a b => ?_) (fun m hm => ?_)
        · rw [bg_up_ne b, g1 k a c d e]; exact f1 k a b c d e
        · rw [bg_up_ne (by omega), g2 j b]; exact f2 j a b
        · by_cases e : m = q
          · subst e; rw [bg_up_self]
          · rw [bg_up_nj (by omega), g1 126 (by omega) (by omega) (by omega) (by omega)]; exact f3 m (by omega)
  rcases hl with hl | ⟨hl, ht⟩
  · iterate 2 (refine hX _ ?_; conv => whnf)
    try simp only [kc0, kc1, kc2, kc3, kc4, kc5, kc6, kc7, kc8, kc9, kc10, kc11, kc12, kc13, kc14, kc15, kc16, kc17, kc18, kc19, kc20, kc21, kc22, kc23, kc24, kc25, kc26, kc27, kc28, kc29, kc30, kc31, kc32, kc33]
    refine hX _ ?_; conv => whnf
    refine ⟨fun q4 => ?_, fun q4 => ?_⟩
    · exfalso
      (try simp (disch := omega) only [bg_w_id, Int.toNat_natCast, rw_land, sh_land, not_true_eq_false, ← hN, eM, kc0, kc1, kc2, kc3, kc4, kc5, kc6, kc7, kc8, kc9, kc10, kc11, kc12, kc13, kc14, kc15, kc16, kc17, kc18, kc19, kc20, kc21, kc22, kc23, kc24, kc25, kc26, kc27, kc28, kc29, kc30, kc31, kc32, kc33] at q4) <;> (omega)
    · try simp (disch := omega) only [bg_w_id, Int.toNat_natCast, rw_land, sh_land, not_true_eq_false, ← hN, eM, kc0, kc1, kc2, kc3, kc4, kc5, kc6, kc7, kc8, kc9, kc10, kc11, kc12, kc13, kc14, kc15, kc16, kc17, kc18, kc19, kc20, kc21, kc22, kc23, kc24, kc25, kc26, kc27, kc28, kc29, kc30, kc31, kc32, kc33] at q4
      iterate 4 (refine hX _ ?_; conv => whnf)
      refine hX _ ?_; conv => whnf
      try (simp (disch := omega) only [bg_w_id, Int.toNat_natCast, rw_land, sh_land, not_true_eq_false, ← hN, eM]; try conv => whnf)
      refine ⟨by first | omega | (simp (disch := omega) only [bg_w_id, Int.toNat_natCast, rw_land, sh_land, not_true_eq_false, ← hN, eM]; omega), ?_⟩
      iterate 4 (refine hX _ ?_; conv => whnf)
      have := l1 0 (by omega) h (fun _ _ _ _ _ _ => rfl) (fun _ _ _ => rfl) (fun m hm => absurd hm (by omega))
      rw [← eM] at this
      exact this
  · rw [hN2, ← hM] at ht
    iterate 2 (refine hX _ ?_; conv => whnf)
    try simp only [kc0, kc1, kc2, kc3, kc4, kc5, kc6, kc7, kc8, kc9, kc10, kc11, kc12, kc13, kc14, kc15, kc16, kc17, kc18, kc19, kc20, kc21, kc22, kc23, kc24, kc25, kc26, kc27, kc28, kc29, kc30, kc31, kc32, kc33]
    refine hX _ ?_; conv => whnf
    refine ⟨fun q4 => ?_, fun q4 => ?_⟩
    · try simp (disch := omega) only [bg_w_id, Int.toNat_natCast, rw_land, sh_land, not_true_eq_false, kc0, kc1, kc2, kc3, kc4, kc5, kc6, kc7, kc8, kc9, kc10, kc11, kc12, kc13, kc14, kc15, kc16, kc17, kc18, kc19, kc20, kc21, kc22, kc23, kc24, kc25, kc26, kc27, kc28, kc29, kc30, kc31, kc32, kc33] at q4
      exact fin h _ _ (fun _ _ _ _ _ _ => rfl) (fun _ _ _ => rfl) hl ht
    · exfalso
      (try simp (disch := omega) only [bg_w_id, Int.toNat_natCast, rw_land, sh_land, not_true_eq_false, kc0, kc1, kc2, kc3, kc4, kc5, kc6, kc7, kc8, kc9, kc10, kc11, kc12, kc13, kc14, kc15, kc16, kc17, kc18, kc19, kc20, kc21, kc22, kc23, kc24, kc25, kc26, kc27, kc28, kc29, kc30, kc31, kc32, kc33] at q4) <;> (omega)
def TM (h : bg_G) : Prop := ∀ t : Nat, (t : Int) < h 119 0 → (0 ≤ h 120 (3 * t) ∧ h 120 (3 * t) < h 117 0) ∧ (0 ≤ h 120 (3 * t + 1) ∧ h 120 (3 * t + 1) < h 117 0)
theorem p2_in {i n : Nat} (h : i < n) : 2 ^ i < 2 ^ n := Nat.pow_lt_pow_right (by decide) h
theorem bt_hi {a b i : Nat} (ha : a < 2 ^ 12) (hb : b < 2 ^ 3) (hi : i < 3) : bt ((a + 4096 * b : Nat) : Int) ((12 + i : Nat) : Int) = if b.testBit i then 1 else 0 := by
  rw [bt_tb (by omega) (by omega)]
  congr 1
  rw [show a + 4096 * b = 2 ^ 12 * b + a by omega, Nat.testBit_two_pow_mul_add b ha, if_neg (by omega), show 12 + i - 12 = i by omega]
theorem bt_lo {a b i : Nat} (ha : a < 2 ^ 12) (hb : b < 2 ^ 3) (hi : i < 12) : bt ((a + 4096 * b : Nat) : Int) (i : Int) = if a.testBit i then 1 else 0 := by
  rw [bt_tb (by omega) (by omega)]
  congr 1
  rw [show a + 4096 * b = 2 ^ 12 * b + a by omega, Nat.testBit_two_pow_mul_add b ha, if_pos (by omega)]
theorem and_lo {a b : Nat} (ha : a < 2 ^ 12) (hb : b < 2 ^ 3) : bg_and ((a + 4096 * b : Nat) : Int) 4095 = (a : Int) := by
  rw [show (4095 : Int) = ((4095 : Nat) : Int) from rfl, bn_and (by omega) (by omega), show 4095 = 2 ^ 12 - 1 from rfl, Nat.and_two_pow_sub_one_eq_mod]
  congr 1
  omega
/-- what posts hold, place by place: paths a, towers b, each tower's two paths -/
def heldN (x y : Nat → Nat) (a b : Nat) : Nat → Nat
  | 0 => a
  | t + 1 => heldN x y a b t ||| (if b.testBit t then 2 ^ x t ||| 2 ^ y t else 0)
theorem heldN_lt {x y : Nat → Nat} {a b N : Nat} (ha : a < 2 ^ N) : ∀ n, (∀ t, t < n → b.testBit t = true → x t < N ∧ y t < N) → heldN x y a b n < 2 ^ N
  | 0, _ => ha
  | n + 1, h => by
    have ih := heldN_lt (x := x) (y := y) (b := b) ha n (fun t ht => h t (by omega))
    refine Nat.or_lt_two_pow ih ?_
    split
    · have := h n (by omega) (by assumption)
      exact Nat.or_lt_two_pow (p2_in this.1) (p2_in this.2)
    · exact Nat.two_pow_pos N
theorem heldM_N {h : bg_G} {np nt a b : Nat} (hp : (np : Int) = h 117 0) (hp12 : np ≤ 12) (ht : (nt : Int) = h 119 0) (ht3 : nt ≤ 3) (ho : okM h) (hT : TM h) (ha : a < 2 ^ np) (hb : b < 2 ^ nt) : heldM h ((a + 4096 * b : Nat) : Int) = (heldN (fun t => (h 120 (3 * t)).toNat) (fun t => (h 120 (3 * t + 1)).toNat) a b 3 : Nat) ∧ heldN (fun t => (h 120 (3 * t)).toNat) (fun t => (h 120 (3 * t + 1)).toNat) a b 3 < 2 ^ np := by
  have ha12 : a < 2 ^ 12 := Nat.lt_of_lt_of_le ha (Nat.pow_le_pow_right (by decide) hp12)
  have hb8 : b < 2 ^ 3 := Nat.lt_of_lt_of_le hb (Nat.pow_le_pow_right (by decide) ht3)
  have hbt : ∀ t, b.testBit t = true → t < nt := fun t e => by
    refine Decidable.byContradiction (fun c => ?_)
    rw [Nat.testBit_lt_two_pow (Nat.lt_of_lt_of_le hb (Nat.pow_le_pow_right (by decide) (by omega)))] at e
    exact absurd e (by decide)
  have hxy : ∀ t, t < 3 → b.testBit t = true → (h 120 (3 * t)).toNat < np ∧ (h 120 (3 * t + 1)).toNat < np := fun t _ e => by
    have := hbt t e
    have := hT t (by omega)
    omega
  refine ⟨?_, heldN_lt ha 3 hxy⟩
  have key : ∀ n, n ≤ 3 → fo n (fun t v => bg_or v (if bt ((a + 4096 * b : Nat) : Int) (12 + t) = 0 then 0 else bg_or (bg_shl 1 (h 120 (3 * t))) (bg_shl 1 (h 120 (3 * t + 1))))) (a : Int) = (heldN (fun t => (h 120 (3 * t)).toNat) (fun t => (h 120 (3 * t + 1)).toNat) a b n : Nat) := by
    intro n
    induction n with
    | zero => intro _; rfl
    | succ n ih =>
      intro hn
      have ih := ih (by omega)
      have r1 := heldN_lt (x := fun t => (h 120 (3 * t)).toNat) (y := fun t => (h 120 (3 * t + 1)).toNat) (b := b) ha n (fun t ht e => hxy t (by omega) e)
      have r2 : 2 ^ np < 2147483648 := p2_lt (by omega)
      have r3 : (if b.testBit n then 2 ^ (h 120 (3 * n)).toNat ||| 2 ^ (h 120 (3 * n + 1)).toNat else 0) < 2 ^ np := by
        split
        · rename_i e
          have := hxy n (by omega) e
          exact Nat.or_lt_two_pow (p2_in this.1) (p2_in this.2)
        · exact Nat.two_pow_pos _
      show bg_or (fo n _ (a : Int)) (if bt ((a + 4096 * b : Nat) : Int) (12 + (n : Int)) = 0 then 0 else bg_or (bg_shl 1 (h 120 (3 * n))) (bg_shl 1 (h 120 (3 * n + 1)))) = ((heldN _ _ a b n ||| (if b.testBit n then 2 ^ (h 120 (3 * n)).toNat ||| 2 ^ (h 120 (3 * n + 1)).toNat else 0) : Nat) : Int)
      have e1 : (if bt ((a + 4096 * b : Nat) : Int) (12 + (n : Int)) = 0 then 0 else bg_or (bg_shl 1 (h 120 (3 * n))) (bg_shl 1 (h 120 (3 * n + 1)))) = (((if b.testBit n then 2 ^ (h 120 (3 * n)).toNat ||| 2 ^ (h 120 (3 * n + 1)).toNat else 0) : Nat) : Int) := by
        rw [show (12 + (n : Int)) = ((12 + n : Nat) : Int) by omega, bt_hi ha12 hb8 (by omega)]
        cases e : b.testBit n
        · simp
        · have hx := hxy n (by omega) e
          have ho2 := ho.2.2 n (by omega)
          obtain ⟨x, ex⟩ : ∃ x : Nat, h 120 (3 * n) = x := ⟨(h 120 (3 * n)).toNat, by omega⟩
          obtain ⟨y, ey⟩ : ∃ y : Nat, h 120 (3 * n + 1) = y := ⟨(h 120 (3 * n + 1)).toNat, by omega⟩
          rw [ex, ey] at hx ⊢
          simp only [Int.toNat_natCast] at hx ⊢
          rw [bn_bit (by omega), bn_bit (by omega), bn_or (p2_lt (by omega)) (p2_lt (by omega))]
          simp
      rw [e1, ih, bn_or (by omega) (by omega)]
  unfold heldM
  rw [and_lo ha12 hb8]
  exact key 3 (by omega)
theorem heldM_rg {h : bg_G} (ho : okM h) (hT : TM h) {s : Int} (h1 : s ≤ 2147483647) (hs : okS (h 117 0) (h 119 0) s) : ∃ m : Nat, m < 2 ^ (h 117 0).toNat ∧ heldM h s = m := by
  have hn := ho.1
  rw [show h 117 0 = ((h 117 0).toNat : Int) by omega, show h 119 0 = ((h 119 0).toNat : Int) by omega, okS_iff (by omega) (by omega) h1] at hs
  obtain ⟨a, b, ha, hb, e⟩ := hs
  have := heldM_N (np := (h 117 0).toNat) (nt := (h 119 0).toNat) (by omega) (by omega) (by omega) (by omega) ho hT ha hb
  exact ⟨_, this.2, by rw [e]; exact this.1⟩
