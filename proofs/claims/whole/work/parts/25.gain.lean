/-- the table of ways, class and model -/
def tblC (h : bg_G) (N : Nat) (len : Nat → Nat) (pt : Nat → Nat → Nat) : Prop := h 41 5 = N ∧ N ≤ 400 ∧ ∀ w, w < N → (1 ≤ len w ∧ len w ≤ 7) ∧ h 43 w = len w ∧ ∀ i, i < len w → pt w i < 12 ∧ h 42 (w * 7 + i) = pt w i
def tblM (h : bg_G) (N : Nat) (len : Nat → Nat) (pt : Nat → Nat → Nat) : Prop := h 115 15 = N ∧ N ≤ 400 ∧ ∀ w, w < N → (1 ≤ len w ∧ len w ≤ 7) ∧ h 127 w = len w ∧ ∀ i, i < len w → pt w i < 12 ∧ h 128 (7 * w + i) = pt w i
def thr (a0 : Int) (b : Nat → Int) (len : Nat) (pt : Nat → Nat) : Int := fo len (fun i a => if b (pt i) < a then b (pt i) else a) a0
theorem thr_rg {b : Nat → Int} {pt : Nat → Nat} {a0 B : Int} : ∀ len : Nat, (∀ i, i < len → 0 ≤ b (pt i) ∧ b (pt i) ≤ B) → 0 ≤ a0 ∧ a0 ≤ B → 0 ≤ thr a0 b len pt ∧ thr a0 b len pt ≤ B
  | 0, _, h => h
  | len + 1, hb, h => by
    have h1 := thr_rg len (fun i hi => hb i (by omega)) h
    have h2 := hb len (by omega)
    show 0 ≤ (if b (pt len) < thr a0 b len pt then b (pt len) else thr a0 b len pt) ∧ _
    have e : thr a0 b (len + 1) pt = if b (pt len) < thr a0 b len pt then b (pt len) else thr a0 b len pt := rfl
    rw [e]
    split <;> omega
theorem s_leastBearing (d n w len : Nat) (pt : Nat → Nat) (held : Int) (h : bg_G) (ho : okC h) (hw : w < 400) (hl : h 43 w = len) (hlen : len ≤ 7) (hp : ∀ i, i < len → pt i < 12 ∧ h 42 (w * 7 + i) = pt i) (Rt : bg_R) (hR : Rt (some (.inl (thr 2147483647 (fun p => bearC h held p 0) len pt))) (bg_SH n, h)) : bg_Ca bg_MS (d + 3) 74 [vR 41, vR 22, vI held, vI w] (bg_SH n, h) Rt := by
  refine bg_ca (cd := cd_X7_leastBearing) rfl rfl ?_
  intro X hX
  have l1 : ∀ i, i ≤ len → X (14, [oR 41, oR 22, oI held, oI w, oI (thr 2147483647 (fun p => bearC h held p 0) i pt), oI (len : Int), oI (i : Int)], [], (bg_SH n, h), (0, 0)) := by
    refine lp_up len _ ?_ (fun i hi ih => ?_)
    · iterate 2 (refine hX _ ?_; conv => whnf)
      refine hX _ ?_; conv => whnf
      refine ⟨fun q18 => ?_, fun q18 => ?_⟩
      · try simp (disch := omega) only [bg_w_id, Int.toNat_natCast, rw_land, sh_land, not_true_eq_false, kc0, kc1, kc2, kc3, kc4, kc5, kc6, kc7, kc8, kc9, kc10, kc11, kc12, kc13, kc14, kc15, kc16, kc17, kc18, kc19, kc20, kc21, kc22, kc23, kc24, kc25, kc26, kc27, kc28, kc29, kc30, kc31, kc32, kc33] at q18
        refine hX _ ?_; conv => whnf
        refine hX _ ?_; conv => whnf
        exact hR
      · exfalso
        (try simp (disch := omega) only [bg_w_id, Int.toNat_natCast, rw_land, sh_land, not_true_eq_false, kc0, kc1, kc2, kc3, kc4, kc5, kc6, kc7, kc8, kc9, kc10, kc11, kc12, kc13, kc14, kc15, kc16, kc17, kc18, kc19, kc20, kc21, kc22, kc23, kc24, kc25, kc26, kc27, kc28, kc29, kc30, kc31, kc32, kc33] at q18) <;> (omega)
    · obtain ⟨hp1, hp2⟩ := hp i hi
      have hb := bearC_rg ho (held := held) (b := 0) hp1 (by omega)
      have hr := thr_rg (b := fun p => bearC h held p 0) (pt := pt) (a0 := 2147483647) (B := 2147483647) i (fun j hj => by have := bearC_rg ho (held := held) (b := 0) (hp j (by omega)).1 (by omega); omega) (by omega)
      iterate 2 (refine hX _ ?_; conv => whnf)
      refine hX _ ?_; conv => whnf
      refine ⟨fun q18 => ?_, fun q18 => ?_⟩
      · exfalso
        (try simp (disch := omega) only [bg_w_id, Int.toNat_natCast, rw_land, sh_land, not_true_eq_false, kc0, kc1, kc2, kc3, kc4, kc5, kc6, kc7, kc8, kc9, kc10, kc11, kc12, kc13, kc14, kc15, kc16, kc17, kc18, kc19, kc20, kc21, kc22, kc23, kc24, kc25, kc26, kc27, kc28, kc29, kc30, kc31, kc32, kc33] at q18) <;> (omega)
      · try simp (disch := omega) only [bg_w_id, Int.toNat_natCast, rw_land, sh_land, not_true_eq_false, kc0, kc1, kc2, kc3, kc4, kc5, kc6, kc7, kc8, kc9, kc10, kc11, kc12, kc13, kc14, kc15, kc16, kc17, kc18, kc19, kc20, kc21, kc22, kc23, kc24, kc25, kc26, kc27, kc28, kc29, kc30, kc31, kc32, kc33] at q18
        iterate 2 (refine hX _ ?_; conv => whnf)
        refine hX _ ?_; conv => whnf
        refine ⟨fun q25 => ?_, fun q25 => ?_⟩
        · exfalso
          (try simp (disch := omega) only [bg_w_id, Int.toNat_natCast, rw_land, sh_land, not_true_eq_false, kc0, kc1, kc2, kc3, kc4, kc5, kc6, kc7, kc8, kc9, kc10, kc11, kc12, kc13, kc14, kc15, kc16, kc17, kc18, kc19, kc20, kc21, kc22, kc23, kc24, kc25, kc26, kc27, kc28, kc29, kc30, kc31, kc32, kc33] at q25) <;> (omega)
        · try simp (disch := omega) only [bg_w_id, Int.toNat_natCast, rw_land, sh_land, not_true_eq_false, kc0, kc1, kc2, kc3, kc4, kc5, kc6, kc7, kc8, kc9, kc10, kc11, kc12, kc13, kc14, kc15, kc16, kc17, kc18, kc19, kc20, kc21, kc22, kc23, kc24, kc25, kc26, kc27, kc28, kc29, kc30, kc31, kc32, kc33] at q25
          iterate 5 (refine hX _ ?_; conv => whnf)
          refine hX _ ?_; conv => whnf
          try simp (disch := omega) only [bg_w_id, Int.toNat_natCast, rw_land, sh_land, not_true_eq_false]
          refine s_pathAt (d + 1) n w i hw (by omega) _ _ ?_
          rw [hp2]
          conv => whnf
          iterate 2 (refine hX _ ?_; conv => whnf)
          refine hX _ ?_; conv => whnf
          try simp (disch := omega) only [bg_w_id, Int.toNat_natCast, rw_land, sh_land, not_true_eq_false]
          refine s_bearing d n (pt i) hp1 _ _ _ _ ?_
          conv => whnf
          iterate 4 (refine hX _ ?_; conv => whnf)
          rw [show thr 2147483647 (fun p => bearC h held p 0) (i + 1) pt = if bearC h held (pt i) 0 < thr 2147483647 (fun p => bearC h held p 0) i pt then bearC h held (pt i) 0 else thr 2147483647 (fun p => bearC h held p 0) i pt from rfl] at ih
          rw [bg_w_id (x := bearC h held (pt i) 0) (by omega) (by omega), bg_w_id (x := thr 2147483647 (fun p => bearC h held p 0) i pt) (by omega) (by omega)]
          exact ih
  iterate 4 (refine hX _ ?_; conv => whnf)
  refine hX _ ?_; conv => whnf
  refine s_lengthOf (d + 1) n w hw _ _ ?_
  rw [hl]
  conv => whnf
  iterate 3 (refine hX _ ?_; conv => whnf)
  exact l1 0 (by omega)
theorem s_mthroughBy (d n w len : Nat) (pt : Nat → Nat) (held : Int) (h : bg_G) (hob : ∀ p, p < 12 → 0 ≤ bearM h held p 0 ∧ bearM h held p 0 ≤ 100) (hw : w < 400) (hl : h 127 w = len) (hlen : len ≤ 7) (hp : ∀ i, i < len → pt i < 12 ∧ h 128 (7 * w + i) = pt i) (Rt : bg_R) (hR : Rt (some (.inl (thr 1000 (fun p => bearM h held p 0) len pt))) (bg_SH n, h)) : bg_Ca bg_MS (d + 3) 157 [vR 115, vI held, vI w] (bg_SH n, h) Rt := by
  refine bg_ca (cd := cd_X9_throughBy) rfl rfl ?_
  intro X hX
  have l1 : ∀ i, i ≤ len → ∀ j5 : Option bg_V, X (7, [oR 115, oI held, oI w, oI (thr 1000 (fun p => bearM h held p 0) i pt), oI (i : Int), j5], [], (bg_SH n, h), (0, 0)) := by
    refine lp_up len _ ?_ (fun i hi ih => ?_)
    · intro j5
      iterate 4 (refine hX _ ?_; conv => whnf)
      refine hX _ ?_; conv => whnf
      try (simp (disch := omega) only [bg_w_id, Int.toNat_natCast, rw_land, sh_land, not_true_eq_false]; try conv => whnf)
      refine ⟨by first | omega | (simp (disch := omega) only [bg_w_id, Int.toNat_natCast, rw_land, sh_land, not_true_eq_false]; omega), ?_⟩
      refine hX _ ?_; conv => whnf
      refine ⟨fun q15 => ?_, fun q15 => ?_⟩
      · try simp (disch := omega) only [bg_w_id, Int.toNat_natCast, rw_land, sh_land, not_true_eq_false, kc0, kc1, kc2, kc3, kc4, kc5, kc6, kc7, kc8, kc9, kc10, kc11, kc12, kc13, kc14, kc15, kc16, kc17, kc18, kc19, kc20, kc21, kc22, kc23, kc24, kc25, kc26, kc27, kc28, kc29, kc30, kc31, kc32, kc33] at q15
        refine hX _ ?_; conv => whnf
        refine hX _ ?_; conv => whnf
        exact hR
      · exfalso
        (try simp (disch := omega) only [bg_w_id, Int.toNat_natCast, rw_land, sh_land, not_true_eq_false, kc0, kc1, kc2, kc3, kc4, kc5, kc6, kc7, kc8, kc9, kc10, kc11, kc12, kc13, kc14, kc15, kc16, kc17, kc18, kc19, kc20, kc21, kc22, kc23, kc24, kc25, kc26, kc27, kc28, kc29, kc30, kc31, kc32, kc33] at q15) <;> (omega)
    · intro j5
      obtain ⟨hp1, hp2⟩ := hp i hi
      have hb := hob (pt i) hp1
      have hr := thr_rg (b := fun p => bearM h held p 0) (pt := pt) (a0 := 1000) (B := 1000) i (fun j hj => by have := hob (pt j) (hp j (by omega)).1; omega) (by omega)
      have ew : thr 1000 (fun p => bearM h held p 0) (i + 1) pt = if bearM h held (pt i) 0 < thr 1000 (fun p => bearM h held p 0) i pt then bearM h held (pt i) 0 else thr 1000 (fun p => bearM h held p 0) i pt := rfl
      iterate 4 (refine hX _ ?_; conv => whnf)
      refine hX _ ?_; conv => whnf
      try (simp (disch := omega) only [bg_w_id, Int.toNat_natCast, rw_land, sh_land, not_true_eq_false]; try conv => whnf)
      refine ⟨by first | omega | (simp (disch := omega) only [bg_w_id, Int.toNat_natCast, rw_land, sh_land, not_true_eq_false]; omega), ?_⟩
      refine hX _ ?_; conv => whnf
      refine ⟨fun q15 => ?_, fun q15 => ?_⟩
      · exfalso
        (try simp (disch := omega) only [bg_w_id, Int.toNat_natCast, rw_land, sh_land, not_true_eq_false, kc0, kc1, kc2, kc3, kc4, kc5, kc6, kc7, kc8, kc9, kc10, kc11, kc12, kc13, kc14, kc15, kc16, kc17, kc18, kc19, kc20, kc21, kc22, kc23, kc24, kc25, kc26, kc27, kc28, kc29, kc30, kc31, kc32, kc33] at q15) <;> (omega)
      · try simp (disch := omega) only [bg_w_id, Int.toNat_natCast, rw_land, sh_land, not_true_eq_false, kc0, kc1, kc2, kc3, kc4, kc5, kc6, kc7, kc8, kc9, kc10, kc11, kc12, kc13, kc14, kc15, kc16, kc17, kc18, kc19, kc20, kc21, kc22, kc23, kc24, kc25, kc26, kc27, kc28, kc29, kc30, kc31, kc32, kc33] at q15
        iterate 9 (refine hX _ ?_; conv => whnf)
        refine hX _ ?_; conv => whnf
        try (simp (disch := omega) only [bg_w_id, Int.toNat_natCast, rw_land, sh_land, not_true_eq_false]; try conv => whnf)
        refine ⟨by first | omega | (simp (disch := omega) only [bg_w_id, Int.toNat_natCast, rw_land, sh_land, not_true_eq_false]; omega), ?_⟩
        refine hX _ ?_; conv => whnf
        refine hX _ ?_; conv => whnf
        try simp (disch := omega) only [bg_w_id, Int.toNat_natCast, rw_land, sh_land, not_true_eq_false]
        rw [hp2]
        refine s_mbearsWith d n (pt i) hp1 _ _ _ _ ?_
        conv => whnf
        iterate 3 (refine hX _ ?_; conv => whnf)
        refine hX _ ?_; conv => whnf
        refine ⟨fun q41 => ?_, fun q41 => ?_⟩
        · try simp (disch := omega) only [bg_w_id, Int.toNat_natCast, rw_land, sh_land, not_true_eq_false, kc0, kc1, kc2, kc3, kc4, kc5, kc6, kc7, kc8, kc9, kc10, kc11, kc12, kc13, kc14, kc15, kc16, kc17, kc18, kc19, kc20, kc21, kc22, kc23, kc24, kc25, kc26, kc27, kc28, kc29, kc30, kc31, kc32, kc33] at q41
          iterate 4 (refine hX _ ?_; conv => whnf)
          have i2 := ih
          rw [ew] at i2
          first | (rw [if_pos q41] at i2; exact i2 _) | (rw [if_neg (by omega)] at i2; exact i2 _)
        · try simp (disch := omega) only [bg_w_id, Int.toNat_natCast, rw_land, sh_land, not_true_eq_false, kc0, kc1, kc2, kc3, kc4, kc5, kc6, kc7, kc8, kc9, kc10, kc11, kc12, kc13, kc14, kc15, kc16, kc17, kc18, kc19, kc20, kc21, kc22, kc23, kc24, kc25, kc26, kc27, kc28, kc29, kc30, kc31, kc32, kc33] at q41
          iterate 5 (refine hX _ ?_; conv => whnf)
          have i2 := ih
          rw [ew] at i2
          first | (rw [if_pos q41] at i2; exact i2 _) | (rw [if_neg (by omega)] at i2; exact i2 _)
  iterate 4 (refine hX _ ?_; conv => whnf)
  exact l1 0 (by omega) _
def gn (worth : Int) (K Z : Nat → Int) (held : Int) (len : Nat) (pt : Nat → Nat) : Int := fo 7 (fun i a => a * (if i < len then 100 - bt held (pt i) * Z (pt i) else 100)) worth - sm 7 (fun i => if i < len then K (pt i) else 0) * 100000000000000
/-- what is carried over the class's ways, and the way that was hardest to hold down -/
def crT (h : bg_G) (N : Nat) (len : Nat → Nat) (pt : Nat → Nat → Nat) : Prop := (0 ≤ h 41 4 ∧ (h 41 4 = 0 ∨ h 41 4 < N)) ∧ ∀ w, w < N → h 44 w = sm (len w) (fun i => h (24 + pt w i) 3)
theorem Div100 {x : Int} (h : 0 ≤ x ∧ x ≤ 4611686018427387903) : bg_Div x 100 = x / 100 := by
  unfold bg_Div
  rw [Int64.toInt_div, show (Int64.ofInt x).toInt = x from bg_W_id (by omega) (by omega), show (Int64.ofInt 100).toInt = 100 from rfl, Int.tdiv_eq_ediv_of_nonneg h.1, Int.bmod_eq_of_le (by simp; omega) (by simp; omega)]
theorem fo_hi {c : Nat → Int} {len : Nat} (x : Int) : ∀ j, fo (len + j) (fun i a => a * (if i < len then c i else 100)) x = fo len (fun i a => a * (if i < len then c i else 100)) x * 100 ^ j
  | 0 => by rw [Int.pow_zero, Int.mul_one]; rfl
  | j + 1 => by
    show fo (len + j) (fun i a => a * (if i < len then c i else 100)) x * (if len + j < len then c (len + j) else 100) = _
    rw [fo_hi x j, if_neg (by omega), Int.mul_assoc, ← Int.pow_succ]
theorem sm_hi {f : Nat → Int} {len : Nat} : ∀ j, sm (len + j) (fun i => if i < len then f i else 0) = sm len f
  | 0 => sm_congr (n := len) (fun i hi => by rw [if_pos hi])
  | j + 1 => by
    show sm (len + j) (fun i => if i < len then f i else 0) + (if len + j < len then f (len + j) else 0) = _
    rw [sm_hi j, if_neg (by omega), Int.add_zero]
theorem fo_rg {c : Nat → Int} {len : Nat} {x : Int} (hx : 0 ≤ x ∧ x ≤ 999) (hc : ∀ i, i < len → 0 ≤ c i ∧ c i ≤ 100) : ∀ i, 0 ≤ fo i (fun i a => a * (if i < len then c i else 100)) x ∧ fo i (fun i a => a * (if i < len then c i else 100)) x ≤ 999 * 100 ^ i
  | 0 => ⟨hx.1, by rw [Int.pow_zero]; exact hx.2⟩
  | i + 1 => by
    have ih := fo_rg hx hc i
    have h1 : 0 ≤ (if i < len then c i else 100) ∧ (if i < len then c i else 100) ≤ 100 := by
      split
      · rename_i e; exact hc i e
      · omega
    show 0 ≤ fo i (fun i a => a * (if i < len then c i else 100)) x * (if i < len then c i else 100) ∧ fo i (fun i a => a * (if i < len then c i else 100)) x * (if i < len then c i else 100) ≤ _
    refine ⟨Int.mul_nonneg ih.1 h1.1, ?_⟩
    calc _ ≤ fo i (fun i a => a * (if i < len then c i else 100)) x * 100 := Int.mul_le_mul_of_nonneg_left h1.2 ih.1
      _ ≤ (999 * 100 ^ i) * 100 := Int.mul_le_mul_of_nonneg_right ih.2 (by omega)
      _ = 999 * 100 ^ (i + 1) := by rw [Int.pow_succ, Int.mul_assoc]
theorem hT_bt (h : bg_G) (held : Int) (p : Nat) : hT h held p = 100 - bt held p * h (24 + p) 5 := by
  unfold hT
  rcases bt_01 held p with e | e
  · rw [if_pos e, e]; omega
  · rw [if_neg (by omega), e]; omega
/-- what is left of the worth behind so many paths, in parts -/
def shr (h : bg_G) (held : Int) (len : Nat) (pt : Nat → Nat) (i : Nat) : Int := fo i (fun i a => a * (if i < len then 100 - bt held (pt i) * h (24 + pt i) 5 else 100)) (h 22 6) * 100 ^ (7 - i)
theorem s_gainOf (d n w len : Nat) (pt : Nat → Nat) (held : Int) (h : bg_G) (ho : okC h) (hw : w < 400) (hl : h 43 w = len) (hlen : len ≤ 7) (hp : ∀ i, i < len → pt i < 12 ∧ h 42 (w * 7 + i) = pt i) (hk : h 44 w = sm len (fun i => h (24 + pt i) 3)) (Rt : bg_R) (hR : Rt (some (.inr (.inl (gn (h 22 6) (fun p => h (24 + p) 3) (fun p => h (24 + p) 5) held len pt)))) (bg_SH n, h)) : bg_Ca bg_MS (d + 2) 75 [vR 41, vR 22, vI held, vI w] (bg_SH n, h) Rt := by
  obtain ⟨⟨hn, hnt, hco, hwo, hot⟩, hrow, -⟩ := ho
  have hc : ∀ i, i < len → 0 ≤ 100 - bt held (pt i) * h (24 + pt i) 5 ∧ 100 - bt held (pt i) * h (24 + pt i) 5 ≤ 100 := fun i hi => by
    have hr := hrow (pt i) (hp i hi).1
    have := bt_mul_rg held (pt i) (x := h (24 + pt i) 5) (B := 100) (by omega)
    omega
  have hg := fo_rg (c := fun i => 100 - bt held (pt i) * h (24 + pt i) 5) (len := len) (x := h 22 6) hwo hc
  have p7 : (999 : Int) * 100 ^ 7 = 99900000000000000 := by decide
  have hs : ∀ i, i ≤ 7 → 0 ≤ shr h held len pt i ∧ shr h held len pt i ≤ 99900000000000000 := fun i hi => by
    have h1 := hg i
    have pp : (0 : Int) ≤ 100 ^ (7 - i) := Int.pow_nonneg (by omega)
    refine ⟨Int.mul_nonneg h1.1 pp, ?_⟩
    calc shr h held len pt i ≤ 999 * 100 ^ i * 100 ^ (7 - i) := Int.mul_le_mul_of_nonneg_right h1.2 pp
      _ = 99900000000000000 := by rw [Int.mul_assoc, ← Int.pow_add, show i + (7 - i) = 7 by omega, p7]
  have hd : ∀ i, i < len → bg_Div (shr h held len pt i) 100 * hT h held (pt i) = shr h held len pt (i + 1) := fun i hi => by
    have h1 := hs i (by omega)
    rw [Div100 (by omega), hT_bt]
    unfold shr
    rw [show 7 - i = (6 - i) + 1 by omega, Int.pow_succ, ← Int.mul_assoc, Int.mul_ediv_cancel _ (by decide), show 7 - (i + 1) = 6 - i by omega]
    rw [show fo (i + 1) (fun i a => a * (if i < len then 100 - bt held (pt i) * h (24 + pt i) 5 else 100)) (h 22 6) = fo i (fun i a => a * (if i < len then 100 - bt held (pt i) * h (24 + pt i) 5 else 100)) (h 22 6) * (if i < len then 100 - bt held (pt i) * h (24 + pt i) 5 else 100) from rfl, if_pos hi]
    rw [Int.mul_assoc, Int.mul_assoc, Int.mul_comm (100 ^ (6 - i))]
  have kr := sm_rg (n := len) (f := fun i => h (24 + pt i) 3) (B := 99) (fun i hi => by have := hrow (pt i) (hp i hi).1; exact ⟨by omega, by omega⟩)
  rw [← hk] at kr
  have eg : gn (h 22 6) (fun p => h (24 + p) 3) (fun p => h (24 + p) 5) held len pt = shr h held len pt len - h 44 w * 100000000000000 := by
    unfold gn shr
    have e1 := fo_hi (c := fun i => 100 - bt held (pt i) * h (24 + pt i) 5) (len := len) (h 22 6) (7 - len)
    have e2 := sm_hi (f := fun i => h (24 + pt i) 3) (len := len) (7 - len)
    rw [show len + (7 - len) = 7 by omega] at e1 e2
    rw [← e1, hk, ← e2]
  rw [eg] at hR
  refine bg_ca (cd := cd_X7_gainOf) rfl rfl ?_
  intro X hX
  have l1 : ∀ i, i ≤ len → X (29, [oR 41, oR 22, oI held, oI w, oL (shr h held len pt i), none, oI (i : Int)], [], (bg_SH n, h), (0, 0)) := by
    refine lp_up len _ ?_ (fun i hi ih => ?_)
    · iterate 4 (refine hX _ ?_; conv => whnf)
      refine hX _ ?_; conv => whnf
      try (simp (disch := omega) only [bg_w_id, Int.toNat_natCast, rw_land, sh_land, not_true_eq_false, hl]; try conv => whnf)
      refine ⟨by first | omega | (simp (disch := omega) only [bg_w_id, Int.toNat_natCast, rw_land, sh_land, not_true_eq_false, hl]; omega), ?_⟩
      refine hX _ ?_; conv => whnf
      refine ⟨fun q37 => ?_, fun q37 => ?_⟩
      · try simp (disch := omega) only [bg_w_id, Int.toNat_natCast, rw_land, sh_land, not_true_eq_false, hl, kc0, kc1, kc2, kc3, kc4, kc5, kc6, kc7, kc8, kc9, kc10, kc11, kc12, kc13, kc14, kc15, kc16, kc17, kc18, kc19, kc20, kc21, kc22, kc23, kc24, kc25, kc26, kc27, kc28, kc29, kc30, kc31, kc32, kc33] at q37
        iterate 4 (refine hX _ ?_; conv => whnf)
        refine hX _ ?_; conv => whnf
        try (simp (disch := omega) only [bg_w_id, Int.toNat_natCast, rw_land, sh_land, not_true_eq_false, hl]; try conv => whnf)
        refine ⟨by first | omega | (simp (disch := omega) only [bg_w_id, Int.toNat_natCast, rw_land, sh_land, not_true_eq_false, hl]; omega), ?_⟩
        iterate 4 (refine hX _ ?_; conv => whnf)
        try simp (disch := omega) only [bg_w_id, Int.toNat_natCast, rw_land, sh_land, not_true_eq_false, hl]
        refine hX _ ?_; conv => whnf
        exact hR
      · exfalso
        (try simp (disch := omega) only [bg_w_id, Int.toNat_natCast, rw_land, sh_land, not_true_eq_false, hl, kc0, kc1, kc2, kc3, kc4, kc5, kc6, kc7, kc8, kc9, kc10, kc11, kc12, kc13, kc14, kc15, kc16, kc17, kc18, kc19, kc20, kc21, kc22, kc23, kc24, kc25, kc26, kc27, kc28, kc29, kc30, kc31, kc32, kc33] at q37) <;> (omega)
    · obtain ⟨hp1, hp2⟩ := hp i hi
      have hz : bg_w (hT h held (pt i)) = hT h held (pt i) := by
        have := hc i hi
        rw [hT_bt]
        exact bg_w_id (by omega) (by omega)
      rw [← hd i hi] at ih
      iterate 4 (refine hX _ ?_; conv => whnf)
      refine hX _ ?_; conv => whnf
      try (simp (disch := omega) only [bg_w_id, Int.toNat_natCast, rw_land, sh_land, not_true_eq_false, hl]; try conv => whnf)
      refine ⟨by first | omega | (simp (disch := omega) only [bg_w_id, Int.toNat_natCast, rw_land, sh_land, not_true_eq_false, hl]; omega), ?_⟩
      refine hX _ ?_; conv => whnf
      refine ⟨fun q37 => ?_, fun q37 => ?_⟩
      · exfalso
        (try simp (disch := omega) only [bg_w_id, Int.toNat_natCast, rw_land, sh_land, not_true_eq_false, hl, kc0, kc1, kc2, kc3, kc4, kc5, kc6, kc7, kc8, kc9, kc10, kc11, kc12, kc13, kc14, kc15, kc16, kc17, kc18, kc19, kc20, kc21, kc22, kc23, kc24, kc25, kc26, kc27, kc28, kc29, kc30, kc31, kc32, kc33] at q37) <;> (omega)
      · try simp (disch := omega) only [bg_w_id, Int.toNat_natCast, rw_land, sh_land, not_true_eq_false, hl, kc0, kc1, kc2, kc3, kc4, kc5, kc6, kc7, kc8, kc9, kc10, kc11, kc12, kc13, kc14, kc15, kc16, kc17, kc18, kc19, kc20, kc21, kc22, kc23, kc24, kc25, kc26, kc27, kc28, kc29, kc30, kc31, kc32, kc33] at q37
        iterate 2 (refine hX _ ?_; conv => whnf)
        refine hX _ ?_; conv => whnf
        refine ⟨fun q44 => ?_, fun q44 => ?_⟩
        · exfalso
          (try simp (disch := omega) only [bg_w_id, Int.toNat_natCast, rw_land, sh_land, not_true_eq_false, hl, kc0, kc1, kc2, kc3, kc4, kc5, kc6, kc7, kc8, kc9, kc10, kc11, kc12, kc13, kc14, kc15, kc16, kc17, kc18, kc19, kc20, kc21, kc22, kc23, kc24, kc25, kc26, kc27, kc28, kc29, kc30, kc31, kc32, kc33] at q44) <;> (omega)
        · try simp (disch := omega) only [bg_w_id, Int.toNat_natCast, rw_land, sh_land, not_true_eq_false, hl, kc0, kc1, kc2, kc3, kc4, kc5, kc6, kc7, kc8, kc9, kc10, kc11, kc12, kc13, kc14, kc15, kc16, kc17, kc18, kc19, kc20, kc21, kc22, kc23, kc24, kc25, kc26, kc27, kc28, kc29, kc30, kc31, kc32, kc33] at q44
          iterate 2 (refine hX _ ?_; conv => whnf)
          refine hX _ ?_; conv => whnf
          refine ⟨by first | omega | decide | (simp (disch := omega) only [bg_w_id, Int.toNat_natCast, rw_land, sh_land, not_true_eq_false, hl]; omega), ?_⟩
          iterate 4 (refine hX _ ?_; conv => whnf)
          refine hX _ ?_; conv => whnf
          try simp (disch := omega) only [bg_w_id, Int.toNat_natCast, rw_land, sh_land, not_true_eq_false, hl]
          refine s_pathAt d n w i hw (by omega) _ _ ?_
          rw [hp2]
          conv => whnf
          refine hX _ ?_; conv => whnf
          refine hX _ ?_; conv => whnf
          try simp (disch := omega) only [bg_w_id, Int.toNat_natCast, rw_land, sh_land, not_true_eq_false, hl]
          refine s_hundredths d n (pt i) hp1 _ _ _ ?_
          conv => whnf
          iterate 5 (refine hX _ ?_; conv => whnf)
          try simp (disch := omega) only [bg_w_id, Int.toNat_natCast, rw_land, sh_land, not_true_eq_false, hl]
          rw [hz]
          exact ih
  refine hX _ ?_; conv => whnf
  refine hX _ ?_; conv => whnf
  refine ⟨fun q1 => ?_, fun q1 => ?_⟩
  · exfalso
    (try simp (disch := omega) only [bg_w_id, Int.toNat_natCast, rw_land, sh_land, not_true_eq_false, kc0, kc1, kc2, kc3, kc4, kc5, kc6, kc7, kc8, kc9, kc10, kc11, kc12, kc13, kc14, kc15, kc16, kc17, kc18, kc19, kc20, kc21, kc22, kc23, kc24, kc25, kc26, kc27, kc28, kc29, kc30, kc31, kc32, kc33] at q1) <;> (omega)
  · try simp (disch := omega) only [bg_w_id, Int.toNat_natCast, rw_land, sh_land, not_true_eq_false, kc0, kc1, kc2, kc3, kc4, kc5, kc6, kc7, kc8, kc9, kc10, kc11, kc12, kc13, kc14, kc15, kc16, kc17, kc18, kc19, kc20, kc21, kc22, kc23, kc24, kc25, kc26, kc27, kc28, kc29, kc30, kc31, kc32, kc33] at q1
    iterate 2 (refine hX _ ?_; conv => whnf)
    refine hX _ ?_; conv => whnf
    refine ⟨fun q8 => ?_, fun q8 => ?_⟩
    · try simp (disch := omega) only [bg_w_id, Int.toNat_natCast, rw_land, sh_land, not_true_eq_false, kc0, kc1, kc2, kc3, kc4, kc5, kc6, kc7, kc8, kc9, kc10, kc11, kc12, kc13, kc14, kc15, kc16, kc17, kc18, kc19, kc20, kc21, kc22, kc23, kc24, kc25, kc26, kc27, kc28, kc29, kc30, kc31, kc32, kc33] at q8
      iterate 8 (refine hX _ ?_; conv => whnf)
      try simp only [kc0, kc1, kc2, kc3, kc4, kc5, kc6, kc7, kc8, kc9, kc10, kc11, kc12, kc13, kc14, kc15, kc16, kc17, kc18, kc19, kc20, kc21, kc22, kc23, kc24, kc25, kc26, kc27, kc28, kc29, kc30, kc31, kc32, kc33]
      try simp (disch := omega) only [bg_w_id, Int.toNat_natCast, rw_land, sh_land, not_true_eq_false, kc0, kc1, kc2, kc3, kc4, kc5, kc6, kc7, kc8, kc9, kc10, kc11, kc12, kc13, kc14, kc15, kc16, kc17, kc18, kc19, kc20, kc21, kc22, kc23, kc24, kc25, kc26, kc27, kc28, kc29, kc30, kc31, kc32, kc33]
      have := l1 0 (by omega)
      rw [show shr h held len pt 0 = h 22 6 * 100000000000000 from rfl] at this
      first | exact this | (rw [bg_w_id (x := h 22 6) (by omega) (by omega)]; exact this)
    · exfalso
      (try simp (disch := omega) only [bg_w_id, Int.toNat_natCast, rw_land, sh_land, not_true_eq_false, kc0, kc1, kc2, kc3, kc4, kc5, kc6, kc7, kc8, kc9, kc10, kc11, kc12, kc13, kc14, kc15, kc16, kc17, kc18, kc19, kc20, kc21, kc22, kc23, kc24, kc25, kc26, kc27, kc28, kc29, kc30, kc31, kc32, kc33] at q8) <;> (omega)
theorem s_mgainBy (d n w len : Nat) (pt : Nat → Nat) (held : Int) (h : bg_G) (ho : okM h) (hw : w < 400) (hl : h 127 w = len) (hlen : len ≤ 7) (hp : ∀ i, i < len → pt i < 12 ∧ h 128 (7 * w + i) = pt i) (Rt : bg_R) (hR : Rt (some (.inr (.inl (gn (h 121 1) (fun p => h 118 (7 * p + 3)) (fun p => h 118 (7 * p + 5)) held len pt)))) (bg_SH n, h)) : bg_Ca bg_MS (d + 2) 159 [vR 115, vI held, vI w] (bg_SH n, h) Rt := by
  obtain ⟨⟨hn, hnt, hco, hwo, hot⟩, hrow, -⟩ := ho
  refine bg_ca (cd := cd_X9_gainBy) rfl rfl ?_
  intro X hX
  have l1 : ∀ i, i ≤ 7 → ∀ j8 : Option bg_V, X (14, [oR 115, oI held, oI w, oL (fo i (fun i a => a * (if i < len then 100 - bt held (pt i) * h 118 (7 * pt i + 5) else 100)) (h 121 1)), none, oL (sm i (fun i => if i < len then h 118 (7 * pt i + 3) else 0)), none, oI (i : Int), j8], [], (bg_SH n, h), (0, 0)) := by
    refine lp_up 7 _ ?_ (fun i hi ih => ?_)
    · intro j8
      iterate 2 (refine hX _ ?_; conv => whnf)
      refine hX _ ?_; conv => whnf
      refine ⟨fun q18 => ?_, fun q18 => ?_⟩
      · try simp (disch := omega) only [bg_w_id, Int.toNat_natCast, rw_land, sh_land, not_true_eq_false, kc0, kc1, kc2, kc3, kc4, kc5, kc6, kc7, kc8, kc9, kc10, kc11, kc12, kc13, kc14, kc15, kc16, kc17, kc18, kc19, kc20, kc21, kc22, kc23, kc24, kc25, kc26, kc27, kc28, kc29, kc30, kc31, kc32, kc33] at q18
        iterate 5 (refine hX _ ?_; conv => whnf)
        refine hX _ ?_; conv => whnf
        exact hR
      · exfalso
        (try simp (disch := omega) only [bg_w_id, Int.toNat_natCast, rw_land, sh_land, not_true_eq_false, kc0, kc1, kc2, kc3, kc4, kc5, kc6, kc7, kc8, kc9, kc10, kc11, kc12, kc13, kc14, kc15, kc16, kc17, kc18, kc19, kc20, kc21, kc22, kc23, kc24, kc25, kc26, kc27, kc28, kc29, kc30, kc31, kc32, kc33] at q18) <;> (omega)
    · intro j8
      have e1 : fo (i + 1) (fun i a => a * (if i < len then 100 - bt held (pt i) * h 118 (7 * pt i + 5) else 100)) (h 121 1) = fo i (fun i a => a * (if i < len then 100 - bt held (pt i) * h 118 (7 * pt i + 5) else 100)) (h 121 1) * (if i < len then 100 - bt held (pt i) * h 118 (7 * pt i + 5) else 100) := rfl
      have e2 : sm (i + 1) (fun i => if i < len then h 118 (7 * pt i + 3) else 0) = sm i (fun i => if i < len then h 118 (7 * pt i + 3) else 0) + (if i < len then h 118 (7 * pt i + 3) else 0) := rfl
      by_cases hil : i < len
      · obtain ⟨hp1, hp2⟩ := hp i hil
        have hr := hrow (pt i) hp1
        rw [e1, e2, if_pos hil, if_pos hil] at ih
        iterate 2 (refine hX _ ?_; conv => whnf)
        refine hX _ ?_; conv => whnf
        refine ⟨fun q18 => ?_, fun q18 => ?_⟩
        · exfalso
          (try simp (disch := omega) only [bg_w_id, Int.toNat_natCast, rw_land, sh_land, not_true_eq_false, hp2, kc0, kc1, kc2, kc3, kc4, kc5, kc6, kc7, kc8, kc9, kc10, kc11, kc12, kc13, kc14, kc15, kc16, kc17, kc18, kc19, kc20, kc21, kc22, kc23, kc24, kc25, kc26, kc27, kc28, kc29, kc30, kc31, kc32, kc33] at q18) <;> (omega)
        · try simp (disch := omega) only [bg_w_id, Int.toNat_natCast, rw_land, sh_land, not_true_eq_false, hp2, kc0, kc1, kc2, kc3, kc4, kc5, kc6, kc7, kc8, kc9, kc10, kc11, kc12, kc13, kc14, kc15, kc16, kc17, kc18, kc19, kc20, kc21, kc22, kc23, kc24, kc25, kc26, kc27, kc28, kc29, kc30, kc31, kc32, kc33] at q18
          iterate 4 (refine hX _ ?_; conv => whnf)
          refine hX _ ?_; conv => whnf
          try (simp (disch := omega) only [bg_w_id, Int.toNat_natCast, rw_land, sh_land, not_true_eq_false, hp2]; try conv => whnf)
          refine ⟨by first | omega | (simp (disch := omega) only [bg_w_id, Int.toNat_natCast, rw_land, sh_land, not_true_eq_false, hp2]; omega), ?_⟩
          refine hX _ ?_; conv => whnf
          refine ⟨fun q29 => ?_, fun q29 => ?_⟩
          · exfalso
            (try simp (disch := omega) only [bg_w_id, Int.toNat_natCast, rw_land, sh_land, not_true_eq_false, hp2, kc0, kc1, kc2, kc3, kc4, kc5, kc6, kc7, kc8, kc9, kc10, kc11, kc12, kc13, kc14, kc15, kc16, kc17, kc18, kc19, kc20, kc21, kc22, kc23, kc24, kc25, kc26, kc27, kc28, kc29, kc30, kc31, kc32, kc33] at q29) <;> (omega)
          · try simp (disch := omega) only [bg_w_id, Int.toNat_natCast, rw_land, sh_land, not_true_eq_false, hp2, kc0, kc1, kc2, kc3, kc4, kc5, kc6, kc7, kc8, kc9, kc10, kc11, kc12, kc13, kc14, kc15, kc16, kc17, kc18, kc19, kc20, kc21, kc22, kc23, kc24, kc25, kc26, kc27, kc28, kc29, kc30, kc31, kc32, kc33] at q29
            iterate 7 (refine hX _ ?_; conv => whnf)
            refine hX _ ?_; conv => whnf
            try (simp (disch := omega) only [bg_w_id, Int.toNat_natCast, rw_land, sh_land, not_true_eq_false, hp2]; try conv => whnf)
            refine ⟨by first | omega | (simp (disch := omega) only [bg_w_id, Int.toNat_natCast, rw_land, sh_land, not_true_eq_false, hp2]; omega), ?_⟩
            iterate 4 (refine hX _ ?_; conv => whnf)
            refine hX _ ?_; conv => whnf
            refine ⟨fun q54 => ?_, fun q54 => ?_⟩
            · exfalso
              (try simp (disch := omega) only [bg_w_id, Int.toNat_natCast, rw_land, sh_land, not_true_eq_false, hp2, kc0, kc1, kc2, kc3, kc4, kc5, kc6, kc7, kc8, kc9, kc10, kc11, kc12, kc13, kc14, kc15, kc16, kc17, kc18, kc19, kc20, kc21, kc22, kc23, kc24, kc25, kc26, kc27, kc28, kc29, kc30, kc31, kc32, kc33] at q54) <;> (omega)
            · try simp (disch := omega) only [bg_w_id, Int.toNat_natCast, rw_land, sh_land, not_true_eq_false, hp2, kc0, kc1, kc2, kc3, kc4, kc5, kc6, kc7, kc8, kc9, kc10, kc11, kc12, kc13, kc14, kc15, kc16, kc17, kc18, kc19, kc20, kc21, kc22, kc23, kc24, kc25, kc26, kc27, kc28, kc29, kc30, kc31, kc32, kc33] at q54
              iterate 2 (refine hX _ ?_; conv => whnf)
              refine hX _ ?_; conv => whnf
              try simp (disch := omega) only [bg_w_id, Int.toNat_natCast, rw_land, sh_land, not_true_eq_false, hp2]
              refine s_has d _ _ _ _ ?_
              conv => whnf
              refine hX _ ?_; conv => whnf
              refine ⟨fun q63 => ?_, fun q63 => ?_⟩
              · try simp (disch := omega) only [bg_w_id, Int.toNat_natCast, rw_land, sh_land, not_true_eq_false, hp2, kc0, kc1, kc2, kc3, kc4, kc5, kc6, kc7, kc8, kc9, kc10, kc11, kc12, kc13, kc14, kc15, kc16, kc17, kc18, kc19, kc20, kc21, kc22, kc23, kc24, kc25, kc26, kc27, kc28, kc29, kc30, kc31, kc32, kc33] at q63
                rw [bt_w] at q63
                iterate 5 (refine hX _ ?_; conv => whnf)
                refine hX _ ?_; conv => whnf
                refine ⟨fun q95 => ?_, fun q95 => ?_⟩
                · exfalso
                  (try simp (disch := omega) only [bg_w_id, Int.toNat_natCast, rw_land, sh_land, not_true_eq_false, hp2, kc0, kc1, kc2, kc3, kc4, kc5, kc6, kc7, kc8, kc9, kc10, kc11, kc12, kc13, kc14, kc15, kc16, kc17, kc18, kc19, kc20, kc21, kc22, kc23, kc24, kc25, kc26, kc27, kc28, kc29, kc30, kc31, kc32, kc33] at q95) <;> (omega)
                · try simp (disch := omega) only [bg_w_id, Int.toNat_natCast, rw_land, sh_land, not_true_eq_false, hp2, kc0, kc1, kc2, kc3, kc4, kc5, kc6, kc7, kc8, kc9, kc10, kc11, kc12, kc13, kc14, kc15, kc16, kc17, kc18, kc19, kc20, kc21, kc22, kc23, kc24, kc25, kc26, kc27, kc28, kc29, kc30, kc31, kc32, kc33] at q95
                  iterate 7 (refine hX _ ?_; conv => whnf)
                  refine hX _ ?_; conv => whnf
                  try (simp (disch := omega) only [bg_w_id, Int.toNat_natCast, rw_land, sh_land, not_true_eq_false, hp2]; try conv => whnf)
                  refine ⟨by first | omega | (simp (disch := omega) only [bg_w_id, Int.toNat_natCast, rw_land, sh_land, not_true_eq_false, hp2]; omega), ?_⟩
                  iterate 6 (refine hX _ ?_; conv => whnf)
                  try simp (disch := omega) only [bg_w_id, Int.toNat_natCast, rw_land, sh_land, not_true_eq_false, hp2]
                  rw [q63] at ih
                  first | (rw [Int.zero_mul, Int.sub_zero] at ih; exact ih _) | (rw [Int.one_mul] at ih; exact ih _)
              · try simp (disch := omega) only [bg_w_id, Int.toNat_natCast, rw_land, sh_land, not_true_eq_false, hp2, kc0, kc1, kc2, kc3, kc4, kc5, kc6, kc7, kc8, kc9, kc10, kc11, kc12, kc13, kc14, kc15, kc16, kc17, kc18, kc19, kc20, kc21, kc22, kc23, kc24, kc25, kc26, kc27, kc28, kc29, kc30, kc31, kc32, kc33] at q63
                rw [bt_w] at q63; have q63 := (bt_01 held (pt i)).resolve_left q63
                iterate 8 (refine hX _ ?_; conv => whnf)
                refine hX _ ?_; conv => whnf
                try (simp (disch := omega) only [bg_w_id, Int.toNat_natCast, rw_land, sh_land, not_true_eq_false, hp2]; try conv => whnf)
                refine ⟨by first | omega | (simp (disch := omega) only [bg_w_id, Int.toNat_natCast, rw_land, sh_land, not_true_eq_false, hp2]; omega), ?_⟩
                iterate 7 (refine hX _ ?_; conv => whnf)
                try simp (disch := omega) only [bg_w_id, Int.toNat_natCast, rw_land, sh_land, not_true_eq_false, hp2]
                refine hX _ ?_; conv => whnf
                refine ⟨fun q95 => ?_, fun q95 => ?_⟩
                · exfalso
                  (try simp (disch := omega) only [bg_w_id, Int.toNat_natCast, rw_land, sh_land, not_true_eq_false, hp2, kc0, kc1, kc2, kc3, kc4, kc5, kc6, kc7, kc8, kc9, kc10, kc11, kc12, kc13, kc14, kc15, kc16, kc17, kc18, kc19, kc20, kc21, kc22, kc23, kc24, kc25, kc26, kc27, kc28, kc29, kc30, kc31, kc32, kc33] at q95) <;> (omega)
                · try simp (disch := omega) only [bg_w_id, Int.toNat_natCast, rw_land, sh_land, not_true_eq_false, hp2, kc0, kc1, kc2, kc3, kc4, kc5, kc6, kc7, kc8, kc9, kc10, kc11, kc12, kc13, kc14, kc15, kc16, kc17, kc18, kc19, kc20, kc21, kc22, kc23, kc24, kc25, kc26, kc27, kc28, kc29, kc30, kc31, kc32, kc33] at q95
                  iterate 7 (refine hX _ ?_; conv => whnf)
                  refine hX _ ?_; conv => whnf
                  try (simp (disch := omega) only [bg_w_id, Int.toNat_natCast, rw_land, sh_land, not_true_eq_false, hp2]; try conv => whnf)
                  refine ⟨by first | omega | (simp (disch := omega) only [bg_w_id, Int.toNat_natCast, rw_land, sh_land, not_true_eq_false, hp2]; omega), ?_⟩
                  iterate 6 (refine hX _ ?_; conv => whnf)
                  try simp (disch := omega) only [bg_w_id, Int.toNat_natCast, rw_land, sh_land, not_true_eq_false, hp2]
                  rw [q63] at ih
                  first | (rw [Int.zero_mul, Int.sub_zero] at ih; exact ih _) | (rw [Int.one_mul] at ih; exact ih _)
      · rw [e1, e2, if_neg hil, if_neg hil] at ih
        iterate 2 (refine hX _ ?_; conv => whnf)
        refine hX _ ?_; conv => whnf
        refine ⟨fun q18 => ?_, fun q18 => ?_⟩
        · exfalso
          (try simp (disch := omega) only [bg_w_id, Int.toNat_natCast, rw_land, sh_land, not_true_eq_false, kc0, kc1, kc2, kc3, kc4, kc5, kc6, kc7, kc8, kc9, kc10, kc11, kc12, kc13, kc14, kc15, kc16, kc17, kc18, kc19, kc20, kc21, kc22, kc23, kc24, kc25, kc26, kc27, kc28, kc29, kc30, kc31, kc32, kc33] at q18) <;> (omega)
        · try simp (disch := omega) only [bg_w_id, Int.toNat_natCast, rw_land, sh_land, not_true_eq_false, kc0, kc1, kc2, kc3, kc4, kc5, kc6, kc7, kc8, kc9, kc10, kc11, kc12, kc13, kc14, kc15, kc16, kc17, kc18, kc19, kc20, kc21, kc22, kc23, kc24, kc25, kc26, kc27, kc28, kc29, kc30, kc31, kc32, kc33] at q18
          iterate 4 (refine hX _ ?_; conv => whnf)
          refine hX _ ?_; conv => whnf
          try (simp (disch := omega) only [bg_w_id, Int.toNat_natCast, rw_land, sh_land, not_true_eq_false]; try conv => whnf)
          refine ⟨by first | omega | (simp (disch := omega) only [bg_w_id, Int.toNat_natCast, rw_land, sh_land, not_true_eq_false]; omega), ?_⟩
          refine hX _ ?_; conv => whnf
          refine ⟨fun q29 => ?_, fun q29 => ?_⟩
          · try simp (disch := omega) only [bg_w_id, Int.toNat_natCast, rw_land, sh_land, not_true_eq_false, kc0, kc1, kc2, kc3, kc4, kc5, kc6, kc7, kc8, kc9, kc10, kc11, kc12, kc13, kc14, kc15, kc16, kc17, kc18, kc19, kc20, kc21, kc22, kc23, kc24, kc25, kc26, kc27, kc28, kc29, kc30, kc31, kc32, kc33] at q29
            iterate 4 (refine hX _ ?_; conv => whnf)
            refine hX _ ?_; conv => whnf
            refine ⟨fun q54 => ?_, fun q54 => ?_⟩
            · try simp (disch := omega) only [bg_w_id, Int.toNat_natCast, rw_land, sh_land, not_true_eq_false, kc0, kc1, kc2, kc3, kc4, kc5, kc6, kc7, kc8, kc9, kc10, kc11, kc12, kc13, kc14, kc15, kc16, kc17, kc18, kc19, kc20, kc21, kc22, kc23, kc24, kc25, kc26, kc27, kc28, kc29, kc30, kc31, kc32, kc33] at q54
              iterate 5 (refine hX _ ?_; conv => whnf)
              refine hX _ ?_; conv => whnf
              refine ⟨fun q95 => ?_, fun q95 => ?_⟩
              · try simp (disch := omega) only [bg_w_id, Int.toNat_natCast, rw_land, sh_land, not_true_eq_false, kc0, kc1, kc2, kc3, kc4, kc5, kc6, kc7, kc8, kc9, kc10, kc11, kc12, kc13, kc14, kc15, kc16, kc17, kc18, kc19, kc20, kc21, kc22, kc23, kc24, kc25, kc26, kc27, kc28, kc29, kc30, kc31, kc32, kc33] at q95
                iterate 5 (refine hX _ ?_; conv => whnf)
                exact ih _
              · exfalso
                (try simp (disch := omega) only [bg_w_id, Int.toNat_natCast, rw_land, sh_land, not_true_eq_false, kc0, kc1, kc2, kc3, kc4, kc5, kc6, kc7, kc8, kc9, kc10, kc11, kc12, kc13, kc14, kc15, kc16, kc17, kc18, kc19, kc20, kc21, kc22, kc23, kc24, kc25, kc26, kc27, kc28, kc29, kc30, kc31, kc32, kc33] at q95) <;> (omega)
            · exfalso
              (try simp (disch := omega) only [bg_w_id, Int.toNat_natCast, rw_land, sh_land, not_true_eq_false, kc0, kc1, kc2, kc3, kc4, kc5, kc6, kc7, kc8, kc9, kc10, kc11, kc12, kc13, kc14, kc15, kc16, kc17, kc18, kc19, kc20, kc21, kc22, kc23, kc24, kc25, kc26, kc27, kc28, kc29, kc30, kc31, kc32, kc33] at q54) <;> (omega)
          · exfalso
            (try simp (disch := omega) only [bg_w_id, Int.toNat_natCast, rw_land, sh_land, not_true_eq_false, kc0, kc1, kc2, kc3, kc4, kc5, kc6, kc7, kc8, kc9, kc10, kc11, kc12, kc13, kc14, kc15, kc16, kc17, kc18, kc19, kc20, kc21, kc22, kc23, kc24, kc25, kc26, kc27, kc28, kc29, kc30, kc31, kc32, kc33] at q29) <;> (omega)
  iterate 3 (refine hX _ ?_; conv => whnf)
  refine hX _ ?_; conv => whnf
  try (simp (disch := omega) only [bg_w_id, Int.toNat_natCast, rw_land, sh_land, not_true_eq_false]; try conv => whnf)
  refine ⟨by first | omega | (simp (disch := omega) only [bg_w_id, Int.toNat_natCast, rw_land, sh_land, not_true_eq_false]; omega), ?_⟩
  iterate 6 (refine hX _ ?_; conv => whnf)
  try simp (disch := omega) only [bg_w_id, Int.toNat_natCast, rw_land, sh_land, not_true_eq_false]
  exact l1 0 (by omega) _
/-- the best of the first N: its number and what it is worth -/
def bw (g : Nat → Int) : Nat → Int × Int
  | 0 => (-4, -9223372036854775808)
  | w + 1 => if (bw g w).2 < g w then ((w : Int), g w) else bw g w
theorem bw_rg {g : Nat → Int} {N : Nat} (hg : ∀ w, w < N → -9223372036854775808 ≤ g w ∧ g w ≤ 9223372036854775807) : ∀ w, w ≤ N → -9223372036854775808 ≤ (bw g w).2 ∧ (bw g w).2 ≤ 9223372036854775807
  | 0, _ => by simp [bw]
  | w + 1, h => by
    have h1 := bw_rg hg w (by omega)
    have h2 := hg w (by omega)
    unfold bw
    split
    · exact h2
    · exact h1
def gC (h : bg_G) (held : Int) (len : Nat → Nat) (pt : Nat → Nat → Nat) (w : Nat) : Int := gn (h 22 6) (fun p => h (24 + p) 3) (fun p => h (24 + p) 5) held (len w) (pt w)
def gM (h : bg_G) (held : Int) (len : Nat → Nat) (pt : Nat → Nat → Nat) (w : Nat) : Int := gn (h 121 1) (fun p => h 118 (7 * p + 3)) (fun p => h 118 (7 * p + 5)) held (len w) (pt w)
theorem gn_rg {worth : Int} {K Z : Nat → Int} {held : Int} {len : Nat} {pt : Nat → Nat} (hw : 0 ≤ worth ∧ worth ≤ 999) (hk : ∀ i, i < len → (0 ≤ K (pt i) ∧ K (pt i) ≤ 99) ∧ 0 ≤ Z (pt i) ∧ Z (pt i) ≤ 100) : -100000000000000000 ≤ gn worth K Z held len pt ∧ gn worth K Z held len pt ≤ 100000000000000000 := by
  have h1 : ∀ i, (0 ≤ fo i (fun i a => a * (if i < len then 100 - bt held (pt i) * Z (pt i) else 100)) worth) ∧ fo i (fun i a => a * (if i < len then 100 - bt held (pt i) * Z (pt i) else 100)) worth ≤ 999 * 100 ^ i := by
    intro i
    induction i with
    | zero => exact ⟨hw.1, by simpa [fo] using hw.2⟩
    | succ i ih =>
      have e : fo (i + 1) (fun i a => a * (if i < len then 100 - bt held (pt i) * Z (pt i) else 100)) worth = fo i (fun i a => a * (if i < len then 100 - bt held (pt i) * Z (pt i) else 100)) worth * (if i < len then 100 - bt held (pt i) * Z (pt i) else 100) := rfl
      have hc : 0 ≤ (if i < len then 100 - bt held (pt i) * Z (pt i) else 100) ∧ (if i < len then 100 - bt held (pt i) * Z (pt i) else 100) ≤ 100 := by
        split
        · rename_i hi
          have := bt_mul_rg held (pt i) (x := Z (pt i)) (B := 100) (hk i hi).2
          omega
        · omega
      rw [e]
      refine ⟨Int.mul_nonneg ih.1 hc.1, ?_⟩
      calc _ ≤ fo i (fun i a => a * (if i < len then 100 - bt held (pt i) * Z (pt i) else 100)) worth * 100 := Int.mul_le_mul_of_nonneg_left hc.2 ih.1
        _ ≤ (999 * 100 ^ i) * 100 := Int.mul_le_mul_of_nonneg_right ih.2 (by omega)
        _ = 999 * 100 ^ (i + 1) := by rw [Int.pow_succ, Int.mul_assoc]
  have h2 := sm_rg (n := 7) (f := fun i => if i < len then K (pt i) else 0) (B := 99) (fun i _ => by
    show 0 ≤ (if i < len then K (pt i) else 0) ∧ (if i < len then K (pt i) else 0) ≤ 99
    split
    · rename_i hi; exact (hk i hi).1
    · omega)
  have h3 := h1 7
  rw [show (999 : Int) * 100 ^ 7 = 99900000000000000 from by decide] at h3
  unfold gn
  omega
theorem gC_rg {h : bg_G} (ho : okC h) {held : Int} {N : Nat} {len : Nat → Nat} {pt : Nat → Nat → Nat} (ht : tblC h N len pt) {w : Nat} (hw : w < N) : -100000000000000000 ≤ gC h held len pt w ∧ gC h held len pt w ≤ 100000000000000000 :=
  gn_rg ho.1.2.2.2.1 (fun i hi => by
    have := ho.2.1 (pt w i) (((ht.2.2 w hw).2.2 i hi).1)
    exact ⟨this.2.2.2.1, this.2.2.2.2.2.1⟩)
theorem gM_rg {h : bg_G} (ho : okM h) {held : Int} {N : Nat} {len : Nat → Nat} {pt : Nat → Nat → Nat} (ht : tblM h N len pt) {w : Nat} (hw : w < N) : -100000000000000000 ≤ gM h held len pt w ∧ gM h held len pt w ≤ 100000000000000000 :=
  gn_rg ho.1.2.2.2.1 (fun i hi => by
    have := ho.2.1 (pt w i) (((ht.2.2 w hw).2.2 i hi).1)
    exact ⟨this.2.2.2.1, this.2.2.2.2.2.1⟩)
theorem s_bestOf (d n N : Nat) (len : Nat → Nat) (pt : Nat → Nat → Nat) (held : Int) (h : bg_G) (ho : okC h) (ht : tblC h N len pt) (hc : crT h N len pt) (hN : 1 ≤ N) (Rt : bg_R) (hR : Rt (some (.inl (bw (gC h held len pt) N).1)) (bg_SH n, h)) : bg_Ca bg_MS (d + 3) 76 [vR 41, vR 22, vI held] (bg_SH n, h) Rt := by
  obtain ⟨hs, h400, hw⟩ := id ht
  have hg := bw_rg (g := gC h held len pt) (N := N) (fun w hw => by have := gC_rg ho (held := held) ht hw; omega)
  refine bg_ca (cd := cd_X7_bestOf) rfl rfl ?_
  intro X hX
  have l1 : ∀ w, w ≤ N → 1 ≤ w → ∀ j7 j8 : Option bg_V, X (14, [oR 41, oR 22, oI held, oI (bw (gC h held len pt) w).1, oL (bw (gC h held len pt) w).2, none, oI (w : Int), j7, j8], [], (bg_SH n, h), (0, 0)) := by
    refine lp_up N _ ?_ (fun w hwN ih => ?_)
    · intro h1 j7 j8
      iterate 3 (refine hX _ ?_; conv => whnf)
      try simp only [kc0, kc1, kc2, kc3, kc4, kc5, kc6, kc7, kc8, kc9, kc10, kc11, kc12, kc13, kc14, kc15, kc16, kc17, kc18, kc19, kc20, kc21, kc22, kc23, kc24, kc25, kc26, kc27, kc28, kc29, kc30, kc31, kc32, kc33]
      refine hX _ ?_; conv => whnf
      refine ⟨fun q20 => ?_, fun q20 => ?_⟩
      · try simp (disch := omega) only [bg_w_id, Int.toNat_natCast, rw_land, sh_land, not_true_eq_false, kc0, kc1, kc2, kc3, kc4, kc5, kc6, kc7, kc8, kc9, kc10, kc11, kc12, kc13, kc14, kc15, kc16, kc17, kc18, kc19, kc20, kc21, kc22, kc23, kc24, kc25, kc26, kc27, kc28, kc29, kc30, kc31, kc32, kc33] at q20
        refine hX _ ?_; conv => whnf
        refine hX _ ?_; conv => whnf
        exact hR
      · exfalso
        (try simp (disch := omega) only [bg_w_id, Int.toNat_natCast, rw_land, sh_land, not_true_eq_false, kc0, kc1, kc2, kc3, kc4, kc5, kc6, kc7, kc8, kc9, kc10, kc11, kc12, kc13, kc14, kc15, kc16, kc17, kc18, kc19, kc20, kc21, kc22, kc23, kc24, kc25, kc26, kc27, kc28, kc29, kc30, kc31, kc32, kc33] at q20) <;> (omega)
    · intro h1 j7 j8
      obtain ⟨hl1, hl2, hl3⟩ := hw w hwN
      have hr := hg w (by omega)
      have hr2 := gC_rg ho (held := held) ht hwN
      have eb : bw (gC h held len pt) (w + 1) = if (bw (gC h held len pt) w).2 < gC h held len pt w then ((w : Int), gC h held len pt w) else bw (gC h held len pt) w := rfl
      rw [eb] at ih
      iterate 3 (refine hX _ ?_; conv => whnf)
      try simp only [kc0, kc1, kc2, kc3, kc4, kc5, kc6, kc7, kc8, kc9, kc10, kc11, kc12, kc13, kc14, kc15, kc16, kc17, kc18, kc19, kc20, kc21, kc22, kc23, kc24, kc25, kc26, kc27, kc28, kc29, kc30, kc31, kc32, kc33]
      refine hX _ ?_; conv => whnf
      refine ⟨fun q20 => ?_, fun q20 => ?_⟩
      · exfalso
        (try simp (disch := omega) only [bg_w_id, Int.toNat_natCast, rw_land, sh_land, not_true_eq_false, kc0, kc1, kc2, kc3, kc4, kc5, kc6, kc7, kc8, kc9, kc10, kc11, kc12, kc13, kc14, kc15, kc16, kc17, kc18, kc19, kc20, kc21, kc22, kc23, kc24, kc25, kc26, kc27, kc28, kc29, kc30, kc31, kc32, kc33] at q20) <;> (omega)
      · try simp (disch := omega) only [bg_w_id, Int.toNat_natCast, rw_land, sh_land, not_true_eq_false, kc0, kc1, kc2, kc3, kc4, kc5, kc6, kc7, kc8, kc9, kc10, kc11, kc12, kc13, kc14, kc15, kc16, kc17, kc18, kc19, kc20, kc21, kc22, kc23, kc24, kc25, kc26, kc27, kc28, kc29, kc30, kc31, kc32, kc33] at q20
        iterate 2 (refine hX _ ?_; conv => whnf)
        refine hX _ ?_; conv => whnf
        refine ⟨fun q28 => ?_, fun q28 => ?_⟩
        · exfalso
          (try simp (disch := omega) only [bg_w_id, Int.toNat_natCast, rw_land, sh_land, not_true_eq_false, kc0, kc1, kc2, kc3, kc4, kc5, kc6, kc7, kc8, kc9, kc10, kc11, kc12, kc13, kc14, kc15, kc16, kc17, kc18, kc19, kc20, kc21, kc22, kc23, kc24, kc25, kc26, kc27, kc28, kc29, kc30, kc31, kc32, kc33] at q28) <;> (omega)
        · try simp (disch := omega) only [bg_w_id, Int.toNat_natCast, rw_land, sh_land, not_true_eq_false, kc0, kc1, kc2, kc3, kc4, kc5, kc6, kc7, kc8, kc9, kc10, kc11, kc12, kc13, kc14, kc15, kc16, kc17, kc18, kc19, kc20, kc21, kc22, kc23, kc24, kc25, kc26, kc27, kc28, kc29, kc30, kc31, kc32, kc33] at q28
          iterate 4 (refine hX _ ?_; conv => whnf)
          refine hX _ ?_; conv => whnf
          try simp (disch := omega) only [bg_w_id, Int.toNat_natCast, rw_land, sh_land, not_true_eq_false]
          refine s_gainOf d n w (len w) (pt w) held h ho (by omega) hl2 (by omega) hl3 (hc.2 w hwN) _ ?_
          conv => whnf
          iterate 4 (refine hX _ ?_; conv => whnf)
          refine hX _ ?_; conv => whnf
          refine ⟨fun q46 => ?_, fun q46 => ?_⟩
          · try simp (disch := omega) only [bg_w_id, Int.toNat_natCast, rw_land, sh_land, not_true_eq_false, kc0, kc1, kc2, kc3, kc4, kc5, kc6, kc7, kc8, kc9, kc10, kc11, kc12, kc13, kc14, kc15, kc16, kc17, kc18, kc19, kc20, kc21, kc22, kc23, kc24, kc25, kc26, kc27, kc28, kc29, kc30, kc31, kc32, kc33] at q46
            have q46 : ¬ 0 < bg_w (bg_Cmp (gC h held len pt w) (bw (gC h held len pt) w).2) := q46
            rw [bg_Cmp_gt, bg_W_id (by omega) (by omega), bg_W_id (by omega) (by omega)] at q46
            iterate 2 (refine hX _ ?_; conv => whnf)
            first | (rw [if_pos q46] at ih; exact ih (by omega) _ _) | (rw [if_neg q46] at ih; exact ih (by omega) _ _)
          · try simp (disch := omega) only [bg_w_id, Int.toNat_natCast, rw_land, sh_land, not_true_eq_false, kc0, kc1, kc2, kc3, kc4, kc5, kc6, kc7, kc8, kc9, kc10, kc11, kc12, kc13, kc14, kc15, kc16, kc17, kc18, kc19, kc20, kc21, kc22, kc23, kc24, kc25, kc26, kc27, kc28, kc29, kc30, kc31, kc32, kc33] at q46
            have q46 : 0 < bg_w (bg_Cmp (gC h held len pt w) (bw (gC h held len pt) w).2) := q46
            rw [bg_Cmp_gt, bg_W_id (by omega) (by omega), bg_W_id (by omega) (by omega)] at q46
            iterate 6 (refine hX _ ?_; conv => whnf)
            first | (rw [if_pos q46] at ih; exact ih (by omega) _ _) | (rw [if_neg q46] at ih; exact ih (by omega) _ _)
  obtain ⟨hl1, hl2, hl3⟩ := hw 0 (by omega)
  have hr2 := gC_rg ho (held := held) ht (w := 0) (by omega)
  iterate 6 (refine hX _ ?_; conv => whnf)
  refine hX _ ?_; conv => whnf
  refine s_gainOf d n 0 (len 0) (pt 0) held h ho (by omega) hl2 (by omega) hl3 (hc.2 0 (by omega)) _ ?_
  conv => whnf
  iterate 3 (refine hX _ ?_; conv => whnf)
  have e1 : bw (gC h held len pt) 1 = (0, gC h held len pt 0) := by
    show (if (-9223372036854775808 : Int) < gC h held len pt 0 then (((0 : Nat) : Int), gC h held len pt 0) else _) = _
    rw [if_pos (by omega)]
    rfl
  have := l1 1 hN (by omega)
  rw [e1] at this
  exact this _ _
theorem s_mbestWayBy (d n N : Nat) (len : Nat → Nat) (pt : Nat → Nat → Nat) (held : Int) (h : bg_G) (ho : okM h) (ht : tblM h N len pt) (Rt : bg_R) (hR : Rt (some (.inl (bw (gM h held len pt) N).1)) (bg_SH n, h)) : bg_Ca bg_MS (d + 3) 161 [vR 115, vI held] (bg_SH n, h) Rt := by
  obtain ⟨hs, h400, hw⟩ := id ht
  have hg := bw_rg (g := gM h held len pt) (N := N) (fun w hw => by have := gM_rg ho (held := held) ht hw; omega)
  refine bg_ca (cd := cd_X9_bestWayBy) rfl rfl ?_
  intro X hX
  have l1 : ∀ w, w ≤ N → ∀ j6 j7 : Option bg_V, X (10, [oR 115, oI held, oI (bw (gM h held len pt) w).1, oL (bw (gM h held len pt) w).2, none, oI (w : Int), j6, j7], [], (bg_SH n, h), (0, 0)) := by
    refine lp_up N _ ?_ (fun w hwN ih => ?_)
    · intro j6 j7
      iterate 3 (refine hX _ ?_; conv => whnf)
      try simp only [kc0, kc1, kc2, kc3, kc4, kc5, kc6, kc7, kc8, kc9, kc10, kc11, kc12, kc13, kc14, kc15, kc16, kc17, kc18, kc19, kc20, kc21, kc22, kc23, kc24, kc25, kc26, kc27, kc28, kc29, kc30, kc31, kc32, kc33]
      refine hX _ ?_; conv => whnf
      refine ⟨fun q16 => ?_, fun q16 => ?_⟩
      · try simp (disch := omega) only [bg_w_id, Int.toNat_natCast, rw_land, sh_land, not_true_eq_false, kc0, kc1, kc2, kc3, kc4, kc5, kc6, kc7, kc8, kc9, kc10, kc11, kc12, kc13, kc14, kc15, kc16, kc17, kc18, kc19, kc20, kc21, kc22, kc23, kc24, kc25, kc26, kc27, kc28, kc29, kc30, kc31, kc32, kc33] at q16
        refine hX _ ?_; conv => whnf
        refine hX _ ?_; conv => whnf
        exact hR
      · exfalso
        (try simp (disch := omega) only [bg_w_id, Int.toNat_natCast, rw_land, sh_land, not_true_eq_false, kc0, kc1, kc2, kc3, kc4, kc5, kc6, kc7, kc8, kc9, kc10, kc11, kc12, kc13, kc14, kc15, kc16, kc17, kc18, kc19, kc20, kc21, kc22, kc23, kc24, kc25, kc26, kc27, kc28, kc29, kc30, kc31, kc32, kc33] at q16) <;> (omega)
    · intro j6 j7
      obtain ⟨hl1, hl2, hl3⟩ := hw w hwN
      have hr := hg w (by omega)
      have hr2 := gM_rg ho (held := held) ht hwN
      have eb : bw (gM h held len pt) (w + 1) = if (bw (gM h held len pt) w).2 < gM h held len pt w then ((w : Int), gM h held len pt w) else bw (gM h held len pt) w := rfl
      rw [eb] at ih
      iterate 3 (refine hX _ ?_; conv => whnf)
      try simp only [kc0, kc1, kc2, kc3, kc4, kc5, kc6, kc7, kc8, kc9, kc10, kc11, kc12, kc13, kc14, kc15, kc16, kc17, kc18, kc19, kc20, kc21, kc22, kc23, kc24, kc25, kc26, kc27, kc28, kc29, kc30, kc31, kc32, kc33]
      refine hX _ ?_; conv => whnf
      refine ⟨fun q16 => ?_, fun q16 => ?_⟩
      · exfalso
        (try simp (disch := omega) only [bg_w_id, Int.toNat_natCast, rw_land, sh_land, not_true_eq_false, kc0, kc1, kc2, kc3, kc4, kc5, kc6, kc7, kc8, kc9, kc10, kc11, kc12, kc13, kc14, kc15, kc16, kc17, kc18, kc19, kc20, kc21, kc22, kc23, kc24, kc25, kc26, kc27, kc28, kc29, kc30, kc31, kc32, kc33] at q16) <;> (omega)
      · try simp (disch := omega) only [bg_w_id, Int.toNat_natCast, rw_land, sh_land, not_true_eq_false, kc0, kc1, kc2, kc3, kc4, kc5, kc6, kc7, kc8, kc9, kc10, kc11, kc12, kc13, kc14, kc15, kc16, kc17, kc18, kc19, kc20, kc21, kc22, kc23, kc24, kc25, kc26, kc27, kc28, kc29, kc30, kc31, kc32, kc33] at q16
        iterate 3 (refine hX _ ?_; conv => whnf)
        refine hX _ ?_; conv => whnf
        try simp (disch := omega) only [bg_w_id, Int.toNat_natCast, rw_land, sh_land, not_true_eq_false]
        refine s_mgainBy d n w (len w) (pt w) held h ho (by omega) hl2 (by omega) hl3 _ ?_
        conv => whnf
        iterate 4 (refine hX _ ?_; conv => whnf)
        refine hX _ ?_; conv => whnf
        refine ⟨fun q32 => ?_, fun q32 => ?_⟩
        · try simp (disch := omega) only [bg_w_id, Int.toNat_natCast, rw_land, sh_land, not_true_eq_false, kc0, kc1, kc2, kc3, kc4, kc5, kc6, kc7, kc8, kc9, kc10, kc11, kc12, kc13, kc14, kc15, kc16, kc17, kc18, kc19, kc20, kc21, kc22, kc23, kc24, kc25, kc26, kc27, kc28, kc29, kc30, kc31, kc32, kc33] at q32
          have q32 : ¬ 0 < bg_w (bg_Cmp (gM h held len pt w) (bw (gM h held len pt) w).2) := q32
          rw [bg_Cmp_gt, bg_W_id (by omega) (by omega), bg_W_id (by omega) (by omega)] at q32
          iterate 2 (refine hX _ ?_; conv => whnf)
          first | (rw [if_pos q32] at ih; exact ih _ _) | (rw [if_neg q32] at ih; exact ih _ _)
        · try simp (disch := omega) only [bg_w_id, Int.toNat_natCast, rw_land, sh_land, not_true_eq_false, kc0, kc1, kc2, kc3, kc4, kc5, kc6, kc7, kc8, kc9, kc10, kc11, kc12, kc13, kc14, kc15, kc16, kc17, kc18, kc19, kc20, kc21, kc22, kc23, kc24, kc25, kc26, kc27, kc28, kc29, kc30, kc31, kc32, kc33] at q32
          have q32 : 0 < bg_w (bg_Cmp (gM h held len pt w) (bw (gM h held len pt) w).2) := q32
          rw [bg_Cmp_gt, bg_W_id (by omega) (by omega), bg_W_id (by omega) (by omega)] at q32
          iterate 6 (refine hX _ ?_; conv => whnf)
          first | (rw [if_pos q32] at ih; exact ih _ _) | (rw [if_neg q32] at ih; exact ih _ _)
  iterate 6 (refine hX _ ?_; conv => whnf)
  exact l1 0 (by omega) _ _
