/-! the plans' tables: sums over sets, the cuts that are needed, the least cut by what is held -/
def vS (f : Nat → Int) (m : Nat) : Int := sm 12 (fun p => bt (m : Int) p * f p)
theorem vS_0 (f : Nat → Int) : vS f 0 = 0 := by
  unfold vS
  rw [sm_congr (g := fun _ => 0) (fun i hi => by rw [bt_tb (by omega) (by omega)]; simp)]
  exact sm_zero
theorem sm_one {f g : Nat → Int} {p : Nat} {x : Int} : ∀ n, p < n → (∀ i, i < n → i ≠ p → f i = g i) → f p = g p + x → sm n f = sm n g + x
  | 0, h, _, _ => by omega
  | n + 1, h, hf, hp => by
    by_cases e : p = n
    · subst e
      rw [sm, sm, hp, sm_congr (fun i hi => hf i (by omega) (by omega))]
      omega
    · rw [sm, sm, sm_one n (by omega) (fun i a b => hf i (by omega) b) hp, hf n (by omega) (by omega)]
      omega
theorem vS_step {f : Nat → Int} {p s : Nat} (hp : p < 12) (h1 : 2 ^ p ≤ s) (h2 : s < 2 * 2 ^ p) : vS f s = vS f (s - 2 ^ p) + f p := by
  have hb : 2 ^ p ≤ 2 ^ 11 := Nat.pow_le_pow_right (by decide) (by omega)
  have es : s = 2 ^ p * 1 + (s - 2 ^ p) := by omega
  unfold vS
  refine sm_one 12 hp (fun i hi hip => ?_) ?_
  · show bt s i * f i = bt ((s - 2 ^ p : Nat) : Int) i * f i
    rw [bt_tb (by omega) (by omega), bt_tb (by omega) (by omega)]
    have e2 : s.testBit i = (s - 2 ^ p).testBit i := by
      rw [es, Nat.testBit_two_pow_mul_add 1 (by omega)]
      by_cases c : i < p
      · rw [if_pos c, ← es]
      · rw [if_neg c, ← es, tb_lt (n := p) (a := s - 2 ^ p) (by omega) (by omega)]
        have : i - p ≠ 0 := by omega
        cases e3 : i - p with
        | zero => omega
        | succ k => simp [Nat.testBit_succ]
    rw [e2]
  · show bt s p * f p = bt ((s - 2 ^ p : Nat) : Int) p * f p + f p
    rw [bt_tb (by omega) (by omega), bt_tb (by omega) (by omega), tb_lt (n := p) (a := s - 2 ^ p) (by omega) (by omega)]
    have e2 : s.testBit p = true := by
      rw [es, Nat.testBit_two_pow_mul_add 1 (by omega), if_neg (by omega), Nat.sub_self]
      rfl
    rw [e2]
    simp
theorem s_sumAddends (d n N : Nat) (hN : N ≤ 12) (start : Int) (h : bg_G) (h6 : h 46 6 = ((2 ^ N : Nat) : Int)) (Rt : bg_R) (hR : ∀ h' : bg_G, (∀ k, k ≠ 49 → h' k = h k) → (∀ m : Nat, m < 2 ^ N → h' 49 m = start + vS (fun p => h 50 p) m) → Rt none (bg_SH n, h')) : bg_Ca bg_MS (d + 1) 54 [vR 46, vI start] (bg_SH n, h) Rt := by
  have hM : 2 ^ N ≤ 4096 := (show 2 ^ N ≤ 2 ^ 12 from Nat.pow_le_pow_right (by decide) hN)
  obtain ⟨M, eM⟩ : ∃ M : Nat, M = 2 ^ N := ⟨_, rfl⟩
  rw [← eM] at h6 hR hM
  refine bg_ca (cd := cd_X4_sumAddends) rfl rfl ?_
  intro X hX
  have l1 : ∀ p : Nat, p ≤ 12 → ∀ (h' : bg_G) (j3 j4 j5 : Option bg_V), (∀ k, k ≠ 49 → h' k = h k) → (∀ m : Nat, m < 2 ^ p → m < M → h' 49 m = start + vS (fun p => h 50 p) m) → X (9, [oR 46, oI start, oI (p : Int), j3, j4, j5], [], (bg_SH n, h'), (0, 0)) := by
    refine lp_up 12 _ ?_ (fun p hp ih => ?_)
    · intro h' j3 j4 j5 f1 f2
      iterate 2 (refine hX _ ?_; conv => whnf)
      refine hX _ ?_; conv => whnf
      refine ⟨fun q12 => ?_, fun q12 => ?_⟩
      · try simp (disch := omega) only [bg_w_id, Int.toNat_natCast, rw_land, sh_land, not_true_eq_false, kc0, kc1, kc2, kc3, kc4, kc5, kc6, kc7, kc8, kc9, kc10, kc11, kc12, kc13, kc14, kc15, kc16, kc17, kc18, kc19, kc20, kc21, kc22, kc23, kc24, kc25, kc26, kc27, kc28, kc29, kc30, kc31, kc32, kc33] at q12
        refine hX _ ?_; conv => whnf
        exact hR h' f1 (fun m hm => f2 m (by omega) hm)
      · exfalso
        (try simp (disch := omega) only [bg_w_id, Int.toNat_natCast, rw_land, sh_land, not_true_eq_false, kc0, kc1, kc2, kc3, kc4, kc5, kc6, kc7, kc8, kc9, kc10, kc11, kc12, kc13, kc14, kc15, kc16, kc17, kc18, kc19, kc20, kc21, kc22, kc23, kc24, kc25, kc26, kc27, kc28, kc29, kc30, kc31, kc32, kc33] at q12) <;> (omega)
    · intro h' j3 j4 j5 f1 f2
      have e45 := f1 46 (by omega)
      have e49 := f1 50 (by omega)
      obtain ⟨B, eB⟩ : ∃ B : Nat, B = 2 ^ p := ⟨_, rfl⟩
      have hB : B ≤ 2048 := by rw [eB]; exact (show 2 ^ p ≤ 2 ^ 11 from Nat.pow_le_pow_right (by decide) (by omega))
      have hB1 : 1 ≤ B := by rw [eB]; exact Nat.one_le_two_pow
      have e1 : bg_shl 1 (p : Int) = (B : Int) := by rw [bn_bit (by omega), eB]
      have eB2 : 2 ^ (p + 1) = 2 * B := by rw [eB, Nat.pow_succ]; omega
      rw [← eB] at f2
      by_cases c : p < N
      · have hBM : 2 * B ≤ M := by rw [eM, ← eB2]; exact Nat.pow_le_pow_right (by decide) c
        have l2 : ∀ s : Nat, s ≤ 2 * B → B ≤ s → ∀ (h' : bg_G), (∀ k, k ≠ 49 → h' k = h k) → (∀ m : Nat, m < s → m < M → h' 49 m = start + vS (fun p => h 50 p) m) → X (30, [oR 46, oI start, oI (p : Int), oI (B : Int), oI (h 50 p), oI (s : Int)], [], (bg_SH n, h'), (0, 0)) := by
          refine lp_up (2 * B) _ ?_ (fun s hs ih2 => ?_)
          · intro _ h' f1 f2
            iterate 4 (refine hX _ ?_; conv => whnf)
            refine hX _ ?_; conv => whnf
            refine ⟨fun q35 => ?_, fun q35 => ?_⟩
            · try simp (disch := omega) only [bg_w_id, Int.toNat_natCast, rw_land, sh_land, not_true_eq_false, kc0, kc1, kc2, kc3, kc4, kc5, kc6, kc7, kc8, kc9, kc10, kc11, kc12, kc13, kc14, kc15, kc16, kc17, kc18, kc19, kc20, kc21, kc22, kc23, kc24, kc25, kc26, kc27, kc28, kc29, kc30, kc31, kc32, kc33] at q35
              iterate 2 (refine hX _ ?_; conv => whnf)
              exact ih h' _ _ _ f1 (fun m hm => f2 m (by omega))
            · exfalso
              (try simp (disch := omega) only [bg_w_id, Int.toNat_natCast, rw_land, sh_land, not_true_eq_false, kc0, kc1, kc2, kc3, kc4, kc5, kc6, kc7, kc8, kc9, kc10, kc11, kc12, kc13, kc14, kc15, kc16, kc17, kc18, kc19, kc20, kc21, kc22, kc23, kc24, kc25, kc26, kc27, kc28, kc29, kc30, kc31, kc32, kc33] at q35) <;> (omega)
          · intro hs1 h' f1 f2
            have e45 := f1 46 (by omega)
            have e2 := f2 (s - B) (by omega) (by omega)
            rw [show ((s - B : Nat) : Int) = (s : Int) - B by omega] at e2
            iterate 4 (refine hX _ ?_; conv => whnf)
            refine hX _ ?_; conv => whnf
            refine ⟨fun q35 => ?_, fun q35 => ?_⟩
            · exfalso
              (try simp (disch := omega) only [bg_w_id, Int.toNat_natCast, rw_land, sh_land, not_true_eq_false, e45, h6, kc0, kc1, kc2, kc3, kc4, kc5, kc6, kc7, kc8, kc9, kc10, kc11, kc12, kc13, kc14, kc15, kc16, kc17, kc18, kc19, kc20, kc21, kc22, kc23, kc24, kc25, kc26, kc27, kc28, kc29, kc30, kc31, kc32, kc33] at q35) <;> (omega)
            · try simp (disch := omega) only [bg_w_id, Int.toNat_natCast, rw_land, sh_land, not_true_eq_false, e45, h6, kc0, kc1, kc2, kc3, kc4, kc5, kc6, kc7, kc8, kc9, kc10, kc11, kc12, kc13, kc14, kc15, kc16, kc17, kc18, kc19, kc20, kc21, kc22, kc23, kc24, kc25, kc26, kc27, kc28, kc29, kc30, kc31, kc32, kc33] at q35
              iterate 3 (refine hX _ ?_; conv => whnf)
              try simp only [kc0, kc1, kc2, kc3, kc4, kc5, kc6, kc7, kc8, kc9, kc10, kc11, kc12, kc13, kc14, kc15, kc16, kc17, kc18, kc19, kc20, kc21, kc22, kc23, kc24, kc25, kc26, kc27, kc28, kc29, kc30, kc31, kc32, kc33]
              refine hX _ ?_; conv => whnf
              refine ⟨fun q44 => ?_, fun q44 => ?_⟩
              · exfalso
                (try simp (disch := omega) only [bg_w_id, Int.toNat_natCast, rw_land, sh_land, not_true_eq_false, e45, h6, kc0, kc1, kc2, kc3, kc4, kc5, kc6, kc7, kc8, kc9, kc10, kc11, kc12, kc13, kc14, kc15, kc16, kc17, kc18, kc19, kc20, kc21, kc22, kc23, kc24, kc25, kc26, kc27, kc28, kc29, kc30, kc31, kc32, kc33] at q44) <;> (omega)
              · try simp (disch := omega) only [bg_w_id, Int.toNat_natCast, rw_land, sh_land, not_true_eq_false, e45, h6, kc0, kc1, kc2, kc3, kc4, kc5, kc6, kc7, kc8, kc9, kc10, kc11, kc12, kc13, kc14, kc15, kc16, kc17, kc18, kc19, kc20, kc21, kc22, kc23, kc24, kc25, kc26, kc27, kc28, kc29, kc30, kc31, kc32, kc33] at q44
                iterate 8 (refine hX _ ?_; conv => whnf)
                refine hX _ ?_; conv => whnf
                try (simp (disch := omega) only [bg_w_id, Int.toNat_natCast, rw_land, sh_land, not_true_eq_false, e45, h6]; try conv => whnf)
                refine ⟨by first | omega | (simp (disch := omega) only [bg_w_id, Int.toNat_natCast, rw_land, sh_land, not_true_eq_false, e45, h6]; omega), ?_⟩
                iterate 2 (refine hX _ ?_; conv => whnf)
                refine hX _ ?_; conv => whnf
                try (simp (disch := omega) only [bg_w_id, Int.toNat_natCast, rw_land, sh_land, not_true_eq_false, e45, h6]; try conv => whnf)
                refine ⟨by first | omega | (simp (disch := omega) only [bg_w_id, Int.toNat_natCast, rw_land, sh_land, not_true_eq_false, e45, h6]; omega), ?_⟩
                iterate 2 (refine hX _ ?_; conv => whnf)
                refine ih2 (by omega) _ (fun k hk => by rw [bg_up_ne hk]; exact f1 k hk) (fun m hm hmM => ?_)
                by_cases e : m = s
                · subst e
                  rw [bg_up_self, e2, vS_step (s := m) (p := p) hp (by omega) (by omega), ← eB, Int.add_assoc]
                · rw [bg_up_nj (by omega)]
                  exact f2 m (by omega) hmM
        iterate 2 (refine hX _ ?_; conv => whnf)
        refine hX _ ?_; conv => whnf
        refine ⟨fun q12 => ?_, fun q12 => ?_⟩
        · exfalso
          (try simp (disch := omega) only [bg_w_id, Int.toNat_natCast, rw_land, sh_land, not_true_eq_false, e1, e49, kc0, kc1, kc2, kc3, kc4, kc5, kc6, kc7, kc8, kc9, kc10, kc11, kc12, kc13, kc14, kc15, kc16, kc17, kc18, kc19, kc20, kc21, kc22, kc23, kc24, kc25, kc26, kc27, kc28, kc29, kc30, kc31, kc32, kc33] at q12) <;> (omega)
        · try simp (disch := omega) only [bg_w_id, Int.toNat_natCast, rw_land, sh_land, not_true_eq_false, e1, e49, kc0, kc1, kc2, kc3, kc4, kc5, kc6, kc7, kc8, kc9, kc10, kc11, kc12, kc13, kc14, kc15, kc16, kc17, kc18, kc19, kc20, kc21, kc22, kc23, kc24, kc25, kc26, kc27, kc28, kc29, kc30, kc31, kc32, kc33] at q12
          iterate 7 (refine hX _ ?_; conv => whnf)
          refine hX _ ?_; conv => whnf
          try (simp (disch := omega) only [bg_w_id, Int.toNat_natCast, rw_land, sh_land, not_true_eq_false, e1, e49]; try conv => whnf)
          refine ⟨by first | omega | (simp (disch := omega) only [bg_w_id, Int.toNat_natCast, rw_land, sh_land, not_true_eq_false, e1, e49]; omega), ?_⟩
          iterate 3 (refine hX _ ?_; conv => whnf)
          exact l2 B (by omega) (by omega) h' f1 f2
      · have hBM : M ≤ B := by rw [eM, eB]; exact Nat.pow_le_pow_right (by decide) (by omega)
        iterate 2 (refine hX _ ?_; conv => whnf)
        refine hX _ ?_; conv => whnf
        refine ⟨fun q12 => ?_, fun q12 => ?_⟩
        · exfalso
          (try simp (disch := omega) only [bg_w_id, Int.toNat_natCast, rw_land, sh_land, not_true_eq_false, e1, e45, h6, kc0, kc1, kc2, kc3, kc4, kc5, kc6, kc7, kc8, kc9, kc10, kc11, kc12, kc13, kc14, kc15, kc16, kc17, kc18, kc19, kc20, kc21, kc22, kc23, kc24, kc25, kc26, kc27, kc28, kc29, kc30, kc31, kc32, kc33] at q12) <;> (omega)
        · try simp (disch := omega) only [bg_w_id, Int.toNat_natCast, rw_land, sh_land, not_true_eq_false, e1, e45, h6, kc0, kc1, kc2, kc3, kc4, kc5, kc6, kc7, kc8, kc9, kc10, kc11, kc12, kc13, kc14, kc15, kc16, kc17, kc18, kc19, kc20, kc21, kc22, kc23, kc24, kc25, kc26, kc27, kc28, kc29, kc30, kc31, kc32, kc33] at q12
          iterate 7 (refine hX _ ?_; conv => whnf)
          refine hX _ ?_; conv => whnf
          try (simp (disch := omega) only [bg_w_id, Int.toNat_natCast, rw_land, sh_land, not_true_eq_false, e1, e45, h6]; try conv => whnf)
          refine ⟨by first | omega | (simp (disch := omega) only [bg_w_id, Int.toNat_natCast, rw_land, sh_land, not_true_eq_false, e1, e45, h6]; omega), ?_⟩
          iterate 7 (refine hX _ ?_; conv => whnf)
          refine hX _ ?_; conv => whnf
          refine ⟨fun q35 => ?_, fun q35 => ?_⟩
          · exfalso
            (try simp (disch := omega) only [bg_w_id, Int.toNat_natCast, rw_land, sh_land, not_true_eq_false, e1, e45, h6, kc0, kc1, kc2, kc3, kc4, kc5, kc6, kc7, kc8, kc9, kc10, kc11, kc12, kc13, kc14, kc15, kc16, kc17, kc18, kc19, kc20, kc21, kc22, kc23, kc24, kc25, kc26, kc27, kc28, kc29, kc30, kc31, kc32, kc33] at q35) <;> (omega)
          · try simp (disch := omega) only [bg_w_id, Int.toNat_natCast, rw_land, sh_land, not_true_eq_false, e1, e45, h6, kc0, kc1, kc2, kc3, kc4, kc5, kc6, kc7, kc8, kc9, kc10, kc11, kc12, kc13, kc14, kc15, kc16, kc17, kc18, kc19, kc20, kc21, kc22, kc23, kc24, kc25, kc26, kc27, kc28, kc29, kc30, kc31, kc32, kc33] at q35
            iterate 3 (refine hX _ ?_; conv => whnf)
            try simp only [kc0, kc1, kc2, kc3, kc4, kc5, kc6, kc7, kc8, kc9, kc10, kc11, kc12, kc13, kc14, kc15, kc16, kc17, kc18, kc19, kc20, kc21, kc22, kc23, kc24, kc25, kc26, kc27, kc28, kc29, kc30, kc31, kc32, kc33]
            refine hX _ ?_; conv => whnf
            refine ⟨fun q44 => ?_, fun q44 => ?_⟩
            · try simp (disch := omega) only [bg_w_id, Int.toNat_natCast, rw_land, sh_land, not_true_eq_false, e1, e45, h6, kc0, kc1, kc2, kc3, kc4, kc5, kc6, kc7, kc8, kc9, kc10, kc11, kc12, kc13, kc14, kc15, kc16, kc17, kc18, kc19, kc20, kc21, kc22, kc23, kc24, kc25, kc26, kc27, kc28, kc29, kc30, kc31, kc32, kc33] at q44
              iterate 2 (refine hX _ ?_; conv => whnf)
              exact ih h' _ _ _ f1 (fun m _ hm => f2 m (by omega) hm)
            · exfalso
              (try simp (disch := omega) only [bg_w_id, Int.toNat_natCast, rw_land, sh_land, not_true_eq_false, e1, e45, h6, kc0, kc1, kc2, kc3, kc4, kc5, kc6, kc7, kc8, kc9, kc10, kc11, kc12, kc13, kc14, kc15, kc16, kc17, kc18, kc19, kc20, kc21, kc22, kc23, kc24, kc25, kc26, kc27, kc28, kc29, kc30, kc31, kc32, kc33] at q44) <;> (omega)
  iterate 4 (refine hX _ ?_; conv => whnf)
  refine hX _ ?_; conv => whnf
  try (simp (disch := omega) only [bg_w_id, Int.toNat_natCast, rw_land, sh_land, not_true_eq_false]; try conv => whnf)
  refine ⟨by first | omega | (simp (disch := omega) only [bg_w_id, Int.toNat_natCast, rw_land, sh_land, not_true_eq_false]; omega), ?_⟩
  iterate 2 (refine hX _ ?_; conv => whnf)
  refine l1 0 (by omega) _ _ _ _ (fun k hk => by rw [bg_up_ne hk]) (fun m hm _ => ?_)
  rw [show m = 0 by omega, vS_0, Int.add_zero]
  exact bg_up_self _ _ _ _
theorem s_sumNumbers (d n N w : Nat) (hw : w < 7) (hN : N ≤ 12) (h : bg_G) (h6 : h 46 6 = ((2 ^ N : Nat) : Int)) (Rt : bg_R) (hR : ∀ h' : bg_G, (∀ k, k ≠ 49 → k ≠ 50 → h' k = h k) → (∀ m : Nat, m < 2 ^ N → h' 49 m = vS (fun p => h (24 + p) w) m) → Rt none (bg_SH n, h')) : bg_Ca bg_MS (d + 2) 53 [vR 46, vR 22, vI w] (bg_SH n, h) Rt := by
  refine bg_ca (cd := cd_X4_sumNumbers) rfl rfl ?_
  intro X hX
  have l1 : ∀ p : Nat, p ≤ 12 → ∀ (h' : bg_G), (∀ k, k ≠ 50 → h' k = h k) → (∀ p' : Nat, p' < p → h' 50 p' = h (24 + p') w) → X (2, [oR 46, oR 22, oI (w : Int), oI (p : Int)], [], (bg_SH n, h'), (0, 0)) := by
    refine lp_up 12 _ ?_ (fun p hp ih => ?_)
    · intro h' f1 f2
      iterate 2 (refine hX _ ?_; conv => whnf)
      refine hX _ ?_; conv => whnf
      refine ⟨fun q5 => ?_, fun q5 => ?_⟩
      · try simp (disch := omega) only [bg_w_id, Int.toNat_natCast, rw_land, sh_land, not_true_eq_false, kc0, kc1, kc2, kc3, kc4, kc5, kc6, kc7, kc8, kc9, kc10, kc11, kc12, kc13, kc14, kc15, kc16, kc17, kc18, kc19, kc20, kc21, kc22, kc23, kc24, kc25, kc26, kc27, kc28, kc29, kc30, kc31, kc32, kc33] at q5
        iterate 2 (refine hX _ ?_; conv => whnf)
        refine hX _ ?_; conv => whnf
        try simp (disch := omega) only [bg_w_id, Int.toNat_natCast, rw_land, sh_land, not_true_eq_false]
        refine s_sumAddends d n N hN 0 h' (by rw [f1 46 (by omega)]; exact h6) _ (fun h2 g1 g2 => ?_)
        conv => whnf
        refine hX _ ?_; conv => whnf
        refine hR h2 (fun k a b => by rw [g1 k a]; exact f1 k b) (fun m hm => ?_)
        rw [g2 m hm, Int.zero_add]
        exact sm_congr (fun p hp => by show _ * h' 50 p = _; rw [f2 p hp])
      · exfalso
        (try simp (disch := omega) only [bg_w_id, Int.toNat_natCast, rw_land, sh_land, not_true_eq_false, kc0, kc1, kc2, kc3, kc4, kc5, kc6, kc7, kc8, kc9, kc10, kc11, kc12, kc13, kc14, kc15, kc16, kc17, kc18, kc19, kc20, kc21, kc22, kc23, kc24, kc25, kc26, kc27, kc28, kc29, kc30, kc31, kc32, kc33] at q5) <;> (omega)
    · intro h' f1 f2
      have er := f1 (24 + p) (by omega)
      iterate 2 (refine hX _ ?_; conv => whnf)
      refine hX _ ?_; conv => whnf
      refine ⟨fun q5 => ?_, fun q5 => ?_⟩
      · exfalso
        (try simp (disch := omega) only [bg_w_id, Int.toNat_natCast, rw_land, sh_land, not_true_eq_false, kc0, kc1, kc2, kc3, kc4, kc5, kc6, kc7, kc8, kc9, kc10, kc11, kc12, kc13, kc14, kc15, kc16, kc17, kc18, kc19, kc20, kc21, kc22, kc23, kc24, kc25, kc26, kc27, kc28, kc29, kc30, kc31, kc32, kc33] at q5) <;> (omega)
      · try simp (disch := omega) only [bg_w_id, Int.toNat_natCast, rw_land, sh_land, not_true_eq_false, kc0, kc1, kc2, kc3, kc4, kc5, kc6, kc7, kc8, kc9, kc10, kc11, kc12, kc13, kc14, kc15, kc16, kc17, kc18, kc19, kc20, kc21, kc22, kc23, kc24, kc25, kc26, kc27, kc28, kc29, kc30, kc31, kc32, kc33] at q5
        iterate 6 (refine hX _ ?_; conv => whnf)
        refine hX _ ?_; conv => whnf
        try (simp (disch := omega) only [bg_w_id, Int.toNat_natCast, rw_land, sh_land, not_true_eq_false]; try conv => whnf)
        refine ⟨by first | omega | (simp (disch := omega) only [bg_w_id, Int.toNat_natCast, rw_land, sh_land, not_true_eq_false]; omega), ?_⟩
        try (simp (disch := omega) only [bg_w_id, Int.toNat_natCast, rw_land, sh_land, not_true_eq_false])
        try conv => whnf
        refine hX _ ?_; conv => whnf
        refine hX _ ?_; conv => whnf
        try (simp (disch := omega) only [bg_w_id, Int.toNat_natCast, rw_land, sh_land, not_true_eq_false]; try conv => whnf)
        refine ⟨by first | omega | (simp (disch := omega) only [bg_w_id, Int.toNat_natCast, rw_land, sh_land, not_true_eq_false]; omega), ?_⟩
        refine hX _ ?_; conv => whnf
        try (simp (disch := omega) only [bg_w_id, Int.toNat_natCast, rw_land, sh_land, not_true_eq_false]; try conv => whnf)
        refine ⟨by first | omega | (simp (disch := omega) only [bg_w_id, Int.toNat_natCast, rw_land, sh_land, not_true_eq_false]; omega), ?_⟩
        iterate 2 (refine hX _ ?_; conv => whnf)
        refine ih _ (fun k hk => by rw [bg_up_ne hk]; exact f1 k hk) (fun p' hp' => ?_)
        by_cases e : p' = p
        · subst e
          rw [bg_up_self, er]
        · rw [bg_up_nj (by omega)]
          exact f2 p' (by omega)
  iterate 2 (refine hX _ ?_; conv => whnf)
  exact l1 0 (by omega) h (fun _ _ => rfl) (fun p' hp' => absurd hp' (by omega))
theorem bear_bt {h : bg_G} {m m' b : Int} {p : Nat} (e : bt m p = bt m' p) : bearC h m p b = bearC h m' p b := by
  unfold bearC hT
  rw [e]
/-- what a set of paths bears, if these are held -/
def bsC (h : bg_G) (cp m : Int) : Int := sm 12 (fun p => bt cp p * bearC h m p 0)
theorem bsC_rg {h : bg_G} (ho : okC h) (cp m : Int) : 0 ≤ bsC h cp m ∧ bsC h cp m ≤ 1200 := by
  have := sm_rg (n := 12) (f := fun p => bt cp p * bearC h m p 0) (B := 100) (fun i hi => bt_mul_rg _ _ (bearC_rg ho hi (by omega)))
  unfold bsC
  omega
theorem bt4095 : ∀ p : Nat, p < 12 → bt 4095 p = 1 ∧ bt 0 p = 0 := by decide +kernel
theorem bsC_v {h : bg_G} {cp : Int} (m : Nat) : sm 12 (fun p => bt cp p * bearC h 0 p 0) + vS (fun p => bt cp p * bearC h 4095 p 0 - bt cp p * bearC h 0 p 0) m = bsC h cp m := by
  unfold vS bsC
  rw [← sm_add]
  refine sm_congr (fun p hp => ?_)
  have := bt4095 p hp
  show bt cp p * bearC h 0 p 0 + bt (m : Int) p * (bt cp p * bearC h 4095 p 0 - bt cp p * bearC h 0 p 0) = bt cp p * bearC h m p 0
  rcases bt_01 (m : Int) p with e | e
  · rw [e, bear_bt (m := (m : Int)) (m' := 0) (by rw [e, this.2])]
    omega
  · rw [e, bear_bt (m := (m : Int)) (m' := 4095) (by rw [e, this.1])]
    omega
theorem s_lowerMost (d n N : Nat) (hN : N ≤ 12) (cp : Int) (h : bg_G) (ho : okC h) (h6 : h 46 6 = ((2 ^ N : Nat) : Int)) (hr : ∀ m : Nat, m < 2 ^ N → 0 ≤ h 47 m ∧ h 47 m ≤ 2147483647) (Rt : bg_R) (hR : ∀ h' : bg_G, (∀ k, k ≠ 47 → k ≠ 49 → k ≠ 50 → h' k = h k) → (∀ m : Nat, m < 2 ^ N → h' 47 m = if bsC h cp m < h 47 m then bsC h cp m else h 47 m) → Rt none (bg_SH n, h')) : bg_Ca bg_MS (d + 3) 52 [vR 46, vR 22, vI cp] (bg_SH n, h) Rt := by
  have hM : 2 ^ N ≤ 4096 := (show 2 ^ N ≤ 2 ^ 12 from Nat.pow_le_pow_right (by decide) hN)
  obtain ⟨M, eM⟩ : ∃ M : Nat, M = 2 ^ N := ⟨_, rfl⟩
  rw [← eM] at hR hM hr
  have h6' : h 46 6 = (M : Int) := by rw [eM]; exact h6
  refine bg_ca (cd := cd_X4_lowerMost) rfl rfl ?_
  intro X hX
  have l2 : ∀ m : Nat, m ≤ M → ∀ (h' : bg_G) (j3 j5 j6 : Option bg_V), (∀ k, k ≠ 47 → k ≠ 49 → k ≠ 50 → h' k = h k) → (∀ m' : Nat, m' < M → h' 49 m' = bsC h cp m') → (∀ m' : Nat, m' < m → h' 47 m' = if bsC h cp m' < h 47 m' then bsC h cp m' else h 47 m') → (∀ m' : Nat, m ≤ m' → h' 47 m' = h 47 m') → X (75, [oR 46, oR 22, oI cp, j3, oI (m : Int), j5, j6], [], (bg_SH n, h'), (0, 0)) := by
    refine lp_up M _ ?_ (fun m hm ih => ?_)
    · intro h' j3 j5 j6 f1 f2 f3 f4
      have e45 := f1 46 (by omega) (by omega) (by omega)
      iterate 3 (refine hX _ ?_; conv => whnf)
      try simp only [kc0, kc1, kc2, kc3, kc4, kc5, kc6, kc7, kc8, kc9, kc10, kc11, kc12, kc13, kc14, kc15, kc16, kc17, kc18, kc19, kc20, kc21, kc22, kc23, kc24, kc25, kc26, kc27, kc28, kc29, kc30, kc31, kc32, kc33]
      refine hX _ ?_; conv => whnf
      refine ⟨fun q81 => ?_, fun q81 => ?_⟩
      · try simp (disch := omega) only [bg_w_id, Int.toNat_natCast, rw_land, sh_land, not_true_eq_false, e45, h6', kc0, kc1, kc2, kc3, kc4, kc5, kc6, kc7, kc8, kc9, kc10, kc11, kc12, kc13, kc14, kc15, kc16, kc17, kc18, kc19, kc20, kc21, kc22, kc23, kc24, kc25, kc26, kc27, kc28, kc29, kc30, kc31, kc32, kc33] at q81
        refine hX _ ?_; conv => whnf
        exact hR h' f1 f3
      · exfalso
        (try simp (disch := omega) only [bg_w_id, Int.toNat_natCast, rw_land, sh_land, not_true_eq_false, e45, h6', kc0, kc1, kc2, kc3, kc4, kc5, kc6, kc7, kc8, kc9, kc10, kc11, kc12, kc13, kc14, kc15, kc16, kc17, kc18, kc19, kc20, kc21, kc22, kc23, kc24, kc25, kc26, kc27, kc28, kc29, kc30, kc31, kc32, kc33] at q81) <;> (omega)
    · intro h' j3 j5 j6 f1 f2 f3 f4
      have e45 := f1 46 (by omega) (by omega) (by omega)
      have e48 := f2 m hm
      have e46 := f4 m (Nat.le_refl _)
      have rb := bsC_rg ho cp m
      have rh := hr m hm
      iterate 3 (refine hX _ ?_; conv => whnf)
      try simp only [kc0, kc1, kc2, kc3, kc4, kc5, kc6, kc7, kc8, kc9, kc10, kc11, kc12, kc13, kc14, kc15, kc16, kc17, kc18, kc19, kc20, kc21, kc22, kc23, kc24, kc25, kc26, kc27, kc28, kc29, kc30, kc31, kc32, kc33]
      refine hX _ ?_; conv => whnf
      refine ⟨fun q81 => ?_, fun q81 => ?_⟩
      · exfalso
        (try simp (disch := omega) only [bg_w_id, Int.toNat_natCast, rw_land, sh_land, not_true_eq_false, e45, h6', e48, e46, kc0, kc1, kc2, kc3, kc4, kc5, kc6, kc7, kc8, kc9, kc10, kc11, kc12, kc13, kc14, kc15, kc16, kc17, kc18, kc19, kc20, kc21, kc22, kc23, kc24, kc25, kc26, kc27, kc28, kc29, kc30, kc31, kc32, kc33] at q81) <;> (omega)
      · try simp (disch := omega) only [bg_w_id, Int.toNat_natCast, rw_land, sh_land, not_true_eq_false, e45, h6', e48, e46, kc0, kc1, kc2, kc3, kc4, kc5, kc6, kc7, kc8, kc9, kc10, kc11, kc12, kc13, kc14, kc15, kc16, kc17, kc18, kc19, kc20, kc21, kc22, kc23, kc24, kc25, kc26, kc27, kc28, kc29, kc30, kc31, kc32, kc33] at q81
        iterate 3 (refine hX _ ?_; conv => whnf)
        refine hX _ ?_; conv => whnf
        try (simp (disch := omega) only [bg_w_id, Int.toNat_natCast, rw_land, sh_land, not_true_eq_false, e45, h6', e48, e46]; try conv => whnf)
        refine ⟨by first | omega | (simp (disch := omega) only [bg_w_id, Int.toNat_natCast, rw_land, sh_land, not_true_eq_false, e45, h6', e48, e46]; omega), ?_⟩
        iterate 3 (refine hX _ ?_; conv => whnf)
        refine hX _ ?_; conv => whnf
        try (simp (disch := omega) only [bg_w_id, Int.toNat_natCast, rw_land, sh_land, not_true_eq_false, e45, h6', e48, e46]; try conv => whnf)
        refine ⟨by first | omega | (simp (disch := omega) only [bg_w_id, Int.toNat_natCast, rw_land, sh_land, not_true_eq_false, e45, h6', e48, e46]; omega), ?_⟩
        refine hX _ ?_; conv => whnf
        refine ⟨fun q98 => ?_, fun q98 => ?_⟩
        · try simp (disch := omega) only [bg_w_id, Int.toNat_natCast, rw_land, sh_land, not_true_eq_false, e45, h6', e48, e46, kc0, kc1, kc2, kc3, kc4, kc5, kc6, kc7, kc8, kc9, kc10, kc11, kc12, kc13, kc14, kc15, kc16, kc17, kc18, kc19, kc20, kc21, kc22, kc23, kc24, kc25, kc26, kc27, kc28, kc29, kc30, kc31, kc32, kc33] at q98
          iterate 2 (refine hX _ ?_; conv => whnf)
          first
          | (refine ih _ _ _ _ (fun k a b c => by rw [bg_up_ne a]; exact f1 k a b c) (fun m' hm' => by rw [bg_up_ne (by omega)]; exact f2 m' hm') (fun m' hm' => ?_) (fun m' hm' => by rw [bg_up_nj (by omega)]; exact f4 m' (by omega))
             by_cases e : m' = m
             · subst e
               rw [bg_up_self, if_pos (by omega)]
             · rw [bg_up_nj (by omega)]
               exact f3 m' (by omega))
          | (refine ih _ _ _ _ f1 f2 (fun m' hm' => ?_) (fun m' hm' => f4 m' (by omega))
             by_cases e : m' = m
             · subst e
               rw [e46, if_neg (by omega)]
             · exact f3 m' (by omega))
        · try simp (disch := omega) only [bg_w_id, Int.toNat_natCast, rw_land, sh_land, not_true_eq_false, e45, h6', e48, e46, kc0, kc1, kc2, kc3, kc4, kc5, kc6, kc7, kc8, kc9, kc10, kc11, kc12, kc13, kc14, kc15, kc16, kc17, kc18, kc19, kc20, kc21, kc22, kc23, kc24, kc25, kc26, kc27, kc28, kc29, kc30, kc31, kc32, kc33] at q98
          iterate 6 (refine hX _ ?_; conv => whnf)
          refine hX _ ?_; conv => whnf
          try (simp (disch := omega) only [bg_w_id, Int.toNat_natCast, rw_land, sh_land, not_true_eq_false, e45, h6', e48, e46]; try conv => whnf)
          refine ⟨by first | omega | (simp (disch := omega) only [bg_w_id, Int.toNat_natCast, rw_land, sh_land, not_true_eq_false, e45, h6', e48, e46]; omega), ?_⟩
          refine hX _ ?_; conv => whnf
          try (simp (disch := omega) only [bg_w_id, Int.toNat_natCast, rw_land, sh_land, not_true_eq_false, e45, h6', e48, e46]; try conv => whnf)
          refine ⟨by first | omega | (simp (disch := omega) only [bg_w_id, Int.toNat_natCast, rw_land, sh_land, not_true_eq_false, e45, h6', e48, e46]; omega), ?_⟩
          iterate 2 (refine hX _ ?_; conv => whnf)
          first
          | (refine ih _ _ _ _ (fun k a b c => by rw [bg_up_ne a]; exact f1 k a b c) (fun m' hm' => by rw [bg_up_ne (by omega)]; exact f2 m' hm') (fun m' hm' => ?_) (fun m' hm' => by rw [bg_up_nj (by omega)]; exact f4 m' (by omega))
             by_cases e : m' = m
             · subst e
               rw [bg_up_self, if_pos (by omega)]
             · rw [bg_up_nj (by omega)]
               exact f3 m' (by omega))
          | (refine ih _ _ _ _ f1 f2 (fun m' hm' => ?_) (fun m' hm' => f4 m' (by omega))
             by_cases e : m' = m
             · subst e
               rw [e46, if_neg (by omega)]
             · exact f3 m' (by omega))
  have l1 : ∀ p : Nat, p ≤ 12 → ∀ (h' : bg_G) (j5 j6 : Option bg_V), (∀ k, k ≠ 50 → h' k = h k) → (∀ p' : Nat, p' < p → h' 50 p' = bt cp p' * bearC h 4095 p' 0 - bt cp p' * bearC h 0 p' 0) → X (5, [oR 46, oR 22, oI cp, oI (sm p (fun p => bt cp p * bearC h 0 p 0)), oI (p : Int), j5, j6], [], (bg_SH n, h'), (0, 0)) := by
    refine lp_up 12 _ ?_ (fun p hp ih => ?_)
    · intro h' j5 j6 f1 f2
      iterate 2 (refine hX _ ?_; conv => whnf)
      refine hX _ ?_; conv => whnf
      refine ⟨fun q9 => ?_, fun q9 => ?_⟩
      · try simp (disch := omega) only [bg_w_id, Int.toNat_natCast, rw_land, sh_land, not_true_eq_false, kc0, kc1, kc2, kc3, kc4, kc5, kc6, kc7, kc8, kc9, kc10, kc11, kc12, kc13, kc14, kc15, kc16, kc17, kc18, kc19, kc20, kc21, kc22, kc23, kc24, kc25, kc26, kc27, kc28, kc29, kc30, kc31, kc32, kc33] at q9
        iterate 2 (refine hX _ ?_; conv => whnf)
        refine hX _ ?_; conv => whnf
        try simp (disch := omega) only [bg_w_id, Int.toNat_natCast, rw_land, sh_land, not_true_eq_false]
        refine s_sumAddends (d + 1) n N hN _ h' (by rw [f1 46 (by omega)]; exact h6) _ (fun h2 g1 g2 => ?_)
        conv => whnf
        iterate 2 (refine hX _ ?_; conv => whnf)
        refine l2 0 (by omega) h2 _ _ _ (fun k a b c => by rw [g1 k b]; exact f1 k c) (fun m' hm' => ?_) (fun m' hm' => absurd hm' (by omega)) (fun m' _ => by rw [g1 47 (by omega), f1 47 (by omega)])
        rw [g2 m' (by omega), ← bsC_v]
        congr 1
        exact sm_congr (fun p hp => by show _ * h' 50 p = _; rw [f2 p hp])
      · exfalso
        (try simp (disch := omega) only [bg_w_id, Int.toNat_natCast, rw_land, sh_land, not_true_eq_false, kc0, kc1, kc2, kc3, kc4, kc5, kc6, kc7, kc8, kc9, kc10, kc11, kc12, kc13, kc14, kc15, kc16, kc17, kc18, kc19, kc20, kc21, kc22, kc23, kc24, kc25, kc26, kc27, kc28, kc29, kc30, kc31, kc32, kc33] at q9) <;> (omega)
    · intro h' j5 j6 f1 f2
      have er := f1 (24 + p) (by omega)
      iterate 2 (refine hX _ ?_; conv => whnf)
      refine hX _ ?_; conv => whnf
      refine ⟨fun q9 => ?_, fun q9 => ?_⟩
      · exfalso
        (try simp (disch := omega) only [bg_w_id, Int.toNat_natCast, rw_land, sh_land, not_true_eq_false, kc0, kc1, kc2, kc3, kc4, kc5, kc6, kc7, kc8, kc9, kc10, kc11, kc12, kc13, kc14, kc15, kc16, kc17, kc18, kc19, kc20, kc21, kc22, kc23, kc24, kc25, kc26, kc27, kc28, kc29, kc30, kc31, kc32, kc33] at q9) <;> (omega)
      · try simp (disch := omega) only [bg_w_id, Int.toNat_natCast, rw_land, sh_land, not_true_eq_false, kc0, kc1, kc2, kc3, kc4, kc5, kc6, kc7, kc8, kc9, kc10, kc11, kc12, kc13, kc14, kc15, kc16, kc17, kc18, kc19, kc20, kc21, kc22, kc23, kc24, kc25, kc26, kc27, kc28, kc29, kc30, kc31, kc32, kc33] at q9
        iterate 11 (refine hX _ ?_; conv => whnf)
        refine hX _ ?_; conv => whnf
        try simp (disch := omega) only [bg_w_id, Int.toNat_natCast, rw_land, sh_land, not_true_eq_false]
        refine s_bearing d _ _ hp _ _ _ _ ?_
        rw [bearC_fr er]
        conv => whnf
        iterate 10 (refine hX _ ?_; conv => whnf)
        refine hX _ ?_; conv => whnf
        try simp (disch := omega) only [bg_w_id, Int.toNat_natCast, rw_land, sh_land, not_true_eq_false]
        refine s_bearing d _ _ hp _ _ _ _ ?_
        rw [bearC_fr er]
        conv => whnf
        iterate 3 (refine hX _ ?_; conv => whnf)
        refine hX _ ?_; conv => whnf
        try (simp (disch := omega) only [bg_w_id, Int.toNat_natCast, rw_land, sh_land, not_true_eq_false]; try conv => whnf)
        refine ⟨by first | omega | (simp (disch := omega) only [bg_w_id, Int.toNat_natCast, rw_land, sh_land, not_true_eq_false]; omega), ?_⟩
        iterate 6 (refine hX _ ?_; conv => whnf)
        refine ih _ _ _ (fun k hk => by rw [bg_up_ne hk]; exact f1 k hk) (fun p' hp' => ?_)
        by_cases e : p' = p
        · subst e
          rw [bg_up_self]
          rfl
        · rw [bg_up_nj (by omega)]
          exact f2 p' (by omega)
  iterate 4 (refine hX _ ?_; conv => whnf)
  exact l1 0 (by omega) h _ _ (fun _ _ => rfl) (fun p' hp' => absurd hp' (by omega))
def subC (h : bg_G) (c2 c : Nat) : Prop := bg_and (h 39 c2) (bg_xor (h 39 c) (-1)) = 0 ∧ (h 39 c2 ≠ h 39 c ∨ c2 < c)
theorem s_isNeeded (d n c : Nat) (hc : c < 64) (h : bg_G) (hr : ∀ c : Nat, c < 64 → i32 (h 39 c)) (Rt : bg_R) (hR1 : Rt (some (.inl 1)) (bg_SH n, h)) (hR0 : (∃ c2 : Nat, c2 < 64 ∧ subC h c2 c) → Rt (some (.inl 0)) (bg_SH n, h)) : bg_Ca bg_MS (d + 1) 13 [vR 38, vI c] (bg_SH n, h) Rt := by
  have r1 := hr c hc
  refine bg_ca (cd := cd_X0_isNeeded) rfl rfl ?_
  intro X hX
  have l1 : ∀ q : Nat, q ≤ 64 → ∀ j3 : Option bg_V, X (14, [oR 38, oI (c : Int), oI (q : Int), j3], [], (bg_SH n, h), (0, 0)) := by
    refine lp_up 64 _ ?_ (fun q hq ih => ?_)
    · intro j3
      iterate 2 (refine hX _ ?_; conv => whnf)
      refine hX _ ?_; conv => whnf
      refine ⟨fun q17 => ?_, fun q17 => ?_⟩
      · try simp (disch := omega) only [bg_w_id, Int.toNat_natCast, rw_land, sh_land, not_true_eq_false, kc0, kc1, kc2, kc3, kc4, kc5, kc6, kc7, kc8, kc9, kc10, kc11, kc12, kc13, kc14, kc15, kc16, kc17, kc18, kc19, kc20, kc21, kc22, kc23, kc24, kc25, kc26, kc27, kc28, kc29, kc30, kc31, kc32, kc33] at q17
        refine hX _ ?_; conv => whnf
        refine hX _ ?_; conv => whnf
        exact ⟨Or.inr rfl, hR1⟩
      · exfalso
        (try simp (disch := omega) only [bg_w_id, Int.toNat_natCast, rw_land, sh_land, not_true_eq_false, kc0, kc1, kc2, kc3, kc4, kc5, kc6, kc7, kc8, kc9, kc10, kc11, kc12, kc13, kc14, kc15, kc16, kc17, kc18, kc19, kc20, kc21, kc22, kc23, kc24, kc25, kc26, kc27, kc28, kc29, kc30, kc31, kc32, kc33] at q17) <;> (omega)
    · intro j3
      have r2 := hr q hq
      iterate 2 (refine hX _ ?_; conv => whnf)
      refine hX _ ?_; conv => whnf
      refine ⟨fun q17 => ?_, fun q17 => ?_⟩
      · exfalso
        (try simp (disch := omega) only [bg_w_id, Int.toNat_natCast, rw_land, sh_land, not_true_eq_false, kc0, kc1, kc2, kc3, kc4, kc5, kc6, kc7, kc8, kc9, kc10, kc11, kc12, kc13, kc14, kc15, kc16, kc17, kc18, kc19, kc20, kc21, kc22, kc23, kc24, kc25, kc26, kc27, kc28, kc29, kc30, kc31, kc32, kc33] at q17) <;> (omega)
      · try simp (disch := omega) only [bg_w_id, Int.toNat_natCast, rw_land, sh_land, not_true_eq_false, kc0, kc1, kc2, kc3, kc4, kc5, kc6, kc7, kc8, kc9, kc10, kc11, kc12, kc13, kc14, kc15, kc16, kc17, kc18, kc19, kc20, kc21, kc22, kc23, kc24, kc25, kc26, kc27, kc28, kc29, kc30, kc31, kc32, kc33] at q17
        iterate 3 (refine hX _ ?_; conv => whnf)
        refine hX _ ?_; conv => whnf
        try (simp (disch := omega) only [bg_w_id, Int.toNat_natCast, rw_land, sh_land, not_true_eq_false]; try conv => whnf)
        refine ⟨by first | omega | (simp (disch := omega) only [bg_w_id, Int.toNat_natCast, rw_land, sh_land, not_true_eq_false]; omega), ?_⟩
        iterate 3 (refine hX _ ?_; conv => whnf)
        refine hX _ ?_; conv => whnf
        try (simp (disch := omega) only [bg_w_id, Int.toNat_natCast, rw_land, sh_land, not_true_eq_false]; try conv => whnf)
        refine ⟨by first | omega | (simp (disch := omega) only [bg_w_id, Int.toNat_natCast, rw_land, sh_land, not_true_eq_false]; omega), ?_⟩
        iterate 3 (refine hX _ ?_; conv => whnf)
        refine hX _ ?_; conv => whnf
        refine ⟨fun q35 => ?_, fun q35 => ?_⟩
        · try simp (disch := omega) only [bg_w_id, Int.toNat_natCast, rw_land, sh_land, not_true_eq_false, kc0, kc1, kc2, kc3, kc4, kc5, kc6, kc7, kc8, kc9, kc10, kc11, kc12, kc13, kc14, kc15, kc16, kc17, kc18, kc19, kc20, kc21, kc22, kc23, kc24, kc25, kc26, kc27, kc28, kc29, kc30, kc31, kc32, kc33] at q35
          rw [bg_and_w] at q35
          iterate 3 (refine hX _ ?_; conv => whnf)
          refine hX _ ?_; conv => whnf
          refine ⟨fun q45 => ?_, fun q45 => ?_⟩
          · first
            | (exfalso; (try simp (disch := omega) only [bg_w_id, Int.toNat_natCast, rw_land, sh_land, not_true_eq_false, kc0, kc1, kc2, kc3, kc4, kc5, kc6, kc7, kc8, kc9, kc10, kc11, kc12, kc13, kc14, kc15, kc16, kc17, kc18, kc19, kc20, kc21, kc22, kc23, kc24, kc25, kc26, kc27, kc28, kc29, kc30, kc31, kc32, kc33] at q45) <;> omega)
            | (try simp (disch := omega) only [bg_w_id, Int.toNat_natCast, rw_land, sh_land, not_true_eq_false, kc0, kc1, kc2, kc3, kc4, kc5, kc6, kc7, kc8, kc9, kc10, kc11, kc12, kc13, kc14, kc15, kc16, kc17, kc18, kc19, kc20, kc21, kc22, kc23, kc24, kc25, kc26, kc27, kc28, kc29, kc30, kc31, kc32, kc33] at q45
               iterate 2 (refine hX _ ?_; conv => whnf)
               first
               | (exfalso; omega)
               | exact ih _)
          · first
            | (exfalso; (try simp (disch := omega) only [bg_w_id, Int.toNat_natCast, rw_land, sh_land, not_true_eq_false, kc0, kc1, kc2, kc3, kc4, kc5, kc6, kc7, kc8, kc9, kc10, kc11, kc12, kc13, kc14, kc15, kc16, kc17, kc18, kc19, kc20, kc21, kc22, kc23, kc24, kc25, kc26, kc27, kc28, kc29, kc30, kc31, kc32, kc33] at q45) <;> omega)
            | (try simp (disch := omega) only [bg_w_id, Int.toNat_natCast, rw_land, sh_land, not_true_eq_false, kc0, kc1, kc2, kc3, kc4, kc5, kc6, kc7, kc8, kc9, kc10, kc11, kc12, kc13, kc14, kc15, kc16, kc17, kc18, kc19, kc20, kc21, kc22, kc23, kc24, kc25, kc26, kc27, kc28, kc29, kc30, kc31, kc32, kc33] at q45
               iterate 3 (refine hX _ ?_; conv => whnf)
               refine hX _ ?_; conv => whnf
               try (simp (disch := omega) only [bg_w_id, Int.toNat_natCast, rw_land, sh_land, not_true_eq_false]; try conv => whnf)
               refine ⟨by first | omega | (simp (disch := omega) only [bg_w_id, Int.toNat_natCast, rw_land, sh_land, not_true_eq_false]; omega), ?_⟩
               iterate 3 (refine hX _ ?_; conv => whnf)
               refine hX _ ?_; conv => whnf
               try (simp (disch := omega) only [bg_w_id, Int.toNat_natCast, rw_land, sh_land, not_true_eq_false]; try conv => whnf)
               refine ⟨by first | omega | (simp (disch := omega) only [bg_w_id, Int.toNat_natCast, rw_land, sh_land, not_true_eq_false]; omega), ?_⟩
               refine hX _ ?_; conv => whnf
               refine ⟨fun q60 => ?_, fun q60 => ?_⟩
               · try simp (disch := omega) only [bg_w_id, Int.toNat_natCast, rw_land, sh_land, not_true_eq_false, kc0, kc1, kc2, kc3, kc4, kc5, kc6, kc7, kc8, kc9, kc10, kc11, kc12, kc13, kc14, kc15, kc16, kc17, kc18, kc19, kc20, kc21, kc22, kc23, kc24, kc25, kc26, kc27, kc28, kc29, kc30, kc31, kc32, kc33] at q60
                 refine hX _ ?_; conv => whnf
                 refine hX _ ?_; conv => whnf
                 first
                 | (exfalso; omega)
                 | exact ⟨Or.inl rfl, hR0 ⟨q, hq, q35, by omega⟩⟩
               · try simp (disch := omega) only [bg_w_id, Int.toNat_natCast, rw_land, sh_land, not_true_eq_false, kc0, kc1, kc2, kc3, kc4, kc5, kc6, kc7, kc8, kc9, kc10, kc11, kc12, kc13, kc14, kc15, kc16, kc17, kc18, kc19, kc20, kc21, kc22, kc23, kc24, kc25, kc26, kc27, kc28, kc29, kc30, kc31, kc32, kc33] at q60
                 iterate 2 (refine hX _ ?_; conv => whnf)
                 refine hX _ ?_; conv => whnf
                 refine ⟨fun q65 => ?_, fun q65 => ?_⟩
                 · try simp (disch := omega) only [bg_w_id, Int.toNat_natCast, rw_land, sh_land, not_true_eq_false, kc0, kc1, kc2, kc3, kc4, kc5, kc6, kc7, kc8, kc9, kc10, kc11, kc12, kc13, kc14, kc15, kc16, kc17, kc18, kc19, kc20, kc21, kc22, kc23, kc24, kc25, kc26, kc27, kc28, kc29, kc30, kc31, kc32, kc33] at q65
                   iterate 2 (refine hX _ ?_; conv => whnf)
                   first
                   | (exfalso; omega)
                   | exact ih _
                 · try simp (disch := omega) only [bg_w_id, Int.toNat_natCast, rw_land, sh_land, not_true_eq_false, kc0, kc1, kc2, kc3, kc4, kc5, kc6, kc7, kc8, kc9, kc10, kc11, kc12, kc13, kc14, kc15, kc16, kc17, kc18, kc19, kc20, kc21, kc22, kc23, kc24, kc25, kc26, kc27, kc28, kc29, kc30, kc31, kc32, kc33] at q65
                   refine hX _ ?_; conv => whnf
                   refine hX _ ?_; conv => whnf
                   first
                   | (exfalso; omega)
                   | exact ⟨Or.inl rfl, hR0 ⟨q, hq, q35, by omega⟩⟩)
        · try simp (disch := omega) only [bg_w_id, Int.toNat_natCast, rw_land, sh_land, not_true_eq_false, kc0, kc1, kc2, kc3, kc4, kc5, kc6, kc7, kc8, kc9, kc10, kc11, kc12, kc13, kc14, kc15, kc16, kc17, kc18, kc19, kc20, kc21, kc22, kc23, kc24, kc25, kc26, kc27, kc28, kc29, kc30, kc31, kc32, kc33] at q35
          rw [bg_and_w] at q35
          iterate 4 (refine hX _ ?_; conv => whnf)
          refine hX _ ?_; conv => whnf
          refine ⟨fun q45 => ?_, fun q45 => ?_⟩
          · first
            | (exfalso; (try simp (disch := omega) only [bg_w_id, Int.toNat_natCast, rw_land, sh_land, not_true_eq_false, kc0, kc1, kc2, kc3, kc4, kc5, kc6, kc7, kc8, kc9, kc10, kc11, kc12, kc13, kc14, kc15, kc16, kc17, kc18, kc19, kc20, kc21, kc22, kc23, kc24, kc25, kc26, kc27, kc28, kc29, kc30, kc31, kc32, kc33] at q45) <;> omega)
            | (try simp (disch := omega) only [bg_w_id, Int.toNat_natCast, rw_land, sh_land, not_true_eq_false, kc0, kc1, kc2, kc3, kc4, kc5, kc6, kc7, kc8, kc9, kc10, kc11, kc12, kc13, kc14, kc15, kc16, kc17, kc18, kc19, kc20, kc21, kc22, kc23, kc24, kc25, kc26, kc27, kc28, kc29, kc30, kc31, kc32, kc33] at q45
               iterate 2 (refine hX _ ?_; conv => whnf)
               first
               | (exfalso; omega)
               | exact ih _)
          · first
            | (exfalso; (try simp (disch := omega) only [bg_w_id, Int.toNat_natCast, rw_land, sh_land, not_true_eq_false, kc0, kc1, kc2, kc3, kc4, kc5, kc6, kc7, kc8, kc9, kc10, kc11, kc12, kc13, kc14, kc15, kc16, kc17, kc18, kc19, kc20, kc21, kc22, kc23, kc24, kc25, kc26, kc27, kc28, kc29, kc30, kc31, kc32, kc33] at q45) <;> omega)
            | (try simp (disch := omega) only [bg_w_id, Int.toNat_natCast, rw_land, sh_land, not_true_eq_false, kc0, kc1, kc2, kc3, kc4, kc5, kc6, kc7, kc8, kc9, kc10, kc11, kc12, kc13, kc14, kc15, kc16, kc17, kc18, kc19, kc20, kc21, kc22, kc23, kc24, kc25, kc26, kc27, kc28, kc29, kc30, kc31, kc32, kc33] at q45
               iterate 3 (refine hX _ ?_; conv => whnf)
               refine hX _ ?_; conv => whnf
               try (simp (disch := omega) only [bg_w_id, Int.toNat_natCast, rw_land, sh_land, not_true_eq_false]; try conv => whnf)
               refine ⟨by first | omega | (simp (disch := omega) only [bg_w_id, Int.toNat_natCast, rw_land, sh_land, not_true_eq_false]; omega), ?_⟩
               iterate 3 (refine hX _ ?_; conv => whnf)
               refine hX _ ?_; conv => whnf
               try (simp (disch := omega) only [bg_w_id, Int.toNat_natCast, rw_land, sh_land, not_true_eq_false]; try conv => whnf)
               refine ⟨by first | omega | (simp (disch := omega) only [bg_w_id, Int.toNat_natCast, rw_land, sh_land, not_true_eq_false]; omega), ?_⟩
               refine hX _ ?_; conv => whnf
               refine ⟨fun q60 => ?_, fun q60 => ?_⟩
               · try simp (disch := omega) only [bg_w_id, Int.toNat_natCast, rw_land, sh_land, not_true_eq_false, kc0, kc1, kc2, kc3, kc4, kc5, kc6, kc7, kc8, kc9, kc10, kc11, kc12, kc13, kc14, kc15, kc16, kc17, kc18, kc19, kc20, kc21, kc22, kc23, kc24, kc25, kc26, kc27, kc28, kc29, kc30, kc31, kc32, kc33] at q60
                 refine hX _ ?_; conv => whnf
                 refine hX _ ?_; conv => whnf
                 first
                 | (exfalso; omega)
                 | exact ⟨Or.inl rfl, hR0 ⟨q, hq, q35, by omega⟩⟩
               · try simp (disch := omega) only [bg_w_id, Int.toNat_natCast, rw_land, sh_land, not_true_eq_false, kc0, kc1, kc2, kc3, kc4, kc5, kc6, kc7, kc8, kc9, kc10, kc11, kc12, kc13, kc14, kc15, kc16, kc17, kc18, kc19, kc20, kc21, kc22, kc23, kc24, kc25, kc26, kc27, kc28, kc29, kc30, kc31, kc32, kc33] at q60
                 iterate 2 (refine hX _ ?_; conv => whnf)
                 refine hX _ ?_; conv => whnf
                 refine ⟨fun q65 => ?_, fun q65 => ?_⟩
                 · try simp (disch := omega) only [bg_w_id, Int.toNat_natCast, rw_land, sh_land, not_true_eq_false, kc0, kc1, kc2, kc3, kc4, kc5, kc6, kc7, kc8, kc9, kc10, kc11, kc12, kc13, kc14, kc15, kc16, kc17, kc18, kc19, kc20, kc21, kc22, kc23, kc24, kc25, kc26, kc27, kc28, kc29, kc30, kc31, kc32, kc33] at q65
                   iterate 2 (refine hX _ ?_; conv => whnf)
                   first
                   | (exfalso; omega)
                   | exact ih _
                 · try simp (disch := omega) only [bg_w_id, Int.toNat_natCast, rw_land, sh_land, not_true_eq_false, kc0, kc1, kc2, kc3, kc4, kc5, kc6, kc7, kc8, kc9, kc10, kc11, kc12, kc13, kc14, kc15, kc16, kc17, kc18, kc19, kc20, kc21, kc22, kc23, kc24, kc25, kc26, kc27, kc28, kc29, kc30, kc31, kc32, kc33] at q65
                   refine hX _ ?_; conv => whnf
                   refine hX _ ?_; conv => whnf
                   first
                   | (exfalso; omega)
                   | exact ⟨Or.inl rfl, hR0 ⟨q, hq, q35, by omega⟩⟩)
  refine hX _ ?_; conv => whnf
  refine hX _ ?_; conv => whnf
  refine ⟨fun q1 => ?_, fun q1 => ?_⟩
  · exfalso
    (try simp (disch := omega) only [bg_w_id, Int.toNat_natCast, rw_land, sh_land, not_true_eq_false, kc0, kc1, kc2, kc3, kc4, kc5, kc6, kc7, kc8, kc9, kc10, kc11, kc12, kc13, kc14, kc15, kc16, kc17, kc18, kc19, kc20, kc21, kc22, kc23, kc24, kc25, kc26, kc27, kc28, kc29, kc30, kc31, kc32, kc33] at q1) <;> (omega)
  · try simp (disch := omega) only [bg_w_id, Int.toNat_natCast, rw_land, sh_land, not_true_eq_false, kc0, kc1, kc2, kc3, kc4, kc5, kc6, kc7, kc8, kc9, kc10, kc11, kc12, kc13, kc14, kc15, kc16, kc17, kc18, kc19, kc20, kc21, kc22, kc23, kc24, kc25, kc26, kc27, kc28, kc29, kc30, kc31, kc32, kc33] at q1
    iterate 2 (refine hX _ ?_; conv => whnf)
    refine hX _ ?_; conv => whnf
    refine ⟨fun q7 => ?_, fun q7 => ?_⟩
    · try simp (disch := omega) only [bg_w_id, Int.toNat_natCast, rw_land, sh_land, not_true_eq_false, kc0, kc1, kc2, kc3, kc4, kc5, kc6, kc7, kc8, kc9, kc10, kc11, kc12, kc13, kc14, kc15, kc16, kc17, kc18, kc19, kc20, kc21, kc22, kc23, kc24, kc25, kc26, kc27, kc28, kc29, kc30, kc31, kc32, kc33] at q7
      iterate 2 (refine hX _ ?_; conv => whnf)
      exact l1 0 (by omega) _
    · exfalso
      (try simp (disch := omega) only [bg_w_id, Int.toNat_natCast, rw_land, sh_land, not_true_eq_false, kc0, kc1, kc2, kc3, kc4, kc5, kc6, kc7, kc8, kc9, kc10, kc11, kc12, kc13, kc14, kc15, kc16, kc17, kc18, kc19, kc20, kc21, kc22, kc23, kc24, kc25, kc26, kc27, kc28, kc29, kc30, kc31, kc32, kc33] at q7) <;> (omega)
