theorem s_mvalue (d n : Nat) (part : Int) (hp : i32 part) (h : bg_G) (ho : okM h) (hw : wayL h) (hlo : lotM h) (hG : BG (b4 h)) (Rt : bg_R) (hR1 : (0 ≤ part ∧ part ≤ 1) → ∀ k a b, FST (b4 h) (tgM h) (tcM h) k a b → ∀ h' : bg_G, frPl h h' → Rt (some (.inr (.inl (lowI (vlF (b4 h) a b) (sgW (b4 h) a b * WW (b4 h) a b) part)))) (bg_SH n, h')) (hR2 : (0 ≤ part ∧ part ≤ 1) → (∀ k a b, rg3 k a b → ¬ SUP (b4 h) (tgM h) (tcM h) k a b) → ∀ h' : bg_G, frPl h h' → Rt (some (.inr (.inl (-2)))) (bg_SH n, h')) (hR0 : ¬ (0 ≤ part ∧ part ≤ 1) → Rt (some (.inr (.inl (-1)))) (bg_SH n, h)) : bg_Ca bg_MS (d + 9) 178 [vR 115, vI part] (bg_SH n, h) Rt := by
  refine bg_ca (cd := cd_X9_value) rfl rfl ?_
  intro X hX
  by_cases c : 0 ≤ part ∧ part ≤ 1
  · have go : bg_Ca bg_MS (d + 8) 175 [vR 115] (bg_SH n, h) (fun r H' => X (18, [oR 115, oI part], bg_push r [], H', (0, 0))) := by
      refine s_mplay d n h ho hw hlo hG _ (fun k a b hf h' f sl => ?_) (fun hno h' f => ?_)
      · obtain ⟨w, w1, w2, w3⟩ := mix_w hG hf.2.1.2.2.1
        obtain ⟨p, p1, p2⟩ := mix_v hG hf.2.1.2.2.1
        have hR1 := hR1 c k a b hf h' f
        rw [p1, w1] at hR1
        have e5 : h' 115 28 = (p : Int) := sl.1.trans p1
        have e4 : h' 115 29 = (w : Int) := sl.2.1.trans w1
        refine hX _ ?_; conv => whnf
        refine ⟨fun q18 => ?_, fun q18 => ?_⟩
        · exfalso
          (try simp (disch := omega) only [bg_w_id, Int.toNat_natCast, rw_land, sh_land, not_true_eq_false, e5, e4, kc0, kc1, kc2, kc3, kc4, kc5, kc6, kc7, kc8, kc9, kc10, kc11, kc12, kc13, kc14, kc15, kc16, kc17, kc18, kc19, kc20, kc21, kc22, kc23, kc24, kc25, kc26, kc27, kc28, kc29, kc30, kc31, kc32, kc33] at q18) <;> (omega)
        · try simp (disch := omega) only [bg_w_id, Int.toNat_natCast, rw_land, sh_land, not_true_eq_false, e5, e4, kc0, kc1, kc2, kc3, kc4, kc5, kc6, kc7, kc8, kc9, kc10, kc11, kc12, kc13, kc14, kc15, kc16, kc17, kc18, kc19, kc20, kc21, kc22, kc23, kc24, kc25, kc26, kc27, kc28, kc29, kc30, kc31, kc32, kc33] at q18
          iterate 5 (refine hX _ ?_; conv => whnf)
          try simp only [kc0, kc1, kc2, kc3, kc4, kc5, kc6, kc7, kc8, kc9, kc10, kc11, kc12, kc13, kc14, kc15, kc16, kc17, kc18, kc19, kc20, kc21, kc22, kc23, kc24, kc25, kc26, kc27, kc28, kc29, kc30, kc31, kc32, kc33]
          refine hX _ ?_; conv => whnf
          try simp (disch := omega) only [bg_w_id, Int.toNat_natCast, rw_land, sh_land, not_true_eq_false, e5, e4]
          try rw [e5]
          try rw [e4]
          refine s_mlowest (d + 6) p w part c ⟨w2, w3⟩ p2 _ _ ?_
          conv => whnf
          refine hX _ ?_; conv => whnf
          refine hX _ ?_; conv => whnf
          exact hR1
      · refine hX _ ?_; conv => whnf
        refine ⟨fun q18 => ?_, fun q18 => ?_⟩
        · try simp (disch := omega) only [bg_w_id, Int.toNat_natCast, rw_land, sh_land, not_true_eq_false, kc0, kc1, kc2, kc3, kc4, kc5, kc6, kc7, kc8, kc9, kc10, kc11, kc12, kc13, kc14, kc15, kc16, kc17, kc18, kc19, kc20, kc21, kc22, kc23, kc24, kc25, kc26, kc27, kc28, kc29, kc30, kc31, kc32, kc33] at q18
          refine hX _ ?_; conv => whnf
          refine hX _ ?_; conv => whnf
          exact hR2 c hno h' f
        · exfalso
          (try simp (disch := omega) only [bg_w_id, Int.toNat_natCast, rw_land, sh_land, not_true_eq_false, kc0, kc1, kc2, kc3, kc4, kc5, kc6, kc7, kc8, kc9, kc10, kc11, kc12, kc13, kc14, kc15, kc16, kc17, kc18, kc19, kc20, kc21, kc22, kc23, kc24, kc25, kc26, kc27, kc28, kc29, kc30, kc31, kc32, kc33] at q18) <;> (omega)
    iterate 4 (refine hX _ ?_; conv => whnf)
    try simp (disch := omega) only [bg_w_id, Int.toNat_natCast, rw_land, sh_land, not_true_eq_false]
    refine hX _ ?_; conv => whnf
    try simp (disch := omega) only [bg_w_id, Int.toNat_natCast, rw_land, sh_land, not_true_eq_false]
    refine s_in_t (d + 7) _ _ _ _ _ (by omega) (by omega) (by omega) (by omega) ?_
    conv => whnf
    refine hX _ ?_; conv => whnf
    refine ⟨fun q7 => ?_, fun q7 => ?_⟩
    · try simp (disch := omega) only [bg_w_id, Int.toNat_natCast, rw_land, sh_land, not_true_eq_false, kc0, kc1, kc2, kc3, kc4, kc5, kc6, kc7, kc8, kc9, kc10, kc11, kc12, kc13, kc14, kc15, kc16, kc17, kc18, kc19, kc20, kc21, kc22, kc23, kc24, kc25, kc26, kc27, kc28, kc29, kc30, kc31, kc32, kc33] at q7
      refine hX _ ?_; conv => whnf
      refine hX _ ?_; conv => whnf
      exact go
    · exfalso
      (try simp (disch := omega) only [bg_w_id, Int.toNat_natCast, rw_land, sh_land, not_true_eq_false, kc0, kc1, kc2, kc3, kc4, kc5, kc6, kc7, kc8, kc9, kc10, kc11, kc12, kc13, kc14, kc15, kc16, kc17, kc18, kc19, kc20, kc21, kc22, kc23, kc24, kc25, kc26, kc27, kc28, kc29, kc30, kc31, kc32, kc33] at q7) <;> (omega)
  · iterate 4 (refine hX _ ?_; conv => whnf)
    try simp (disch := omega) only [bg_w_id, Int.toNat_natCast, rw_land, sh_land, not_true_eq_false]
    refine hX _ ?_; conv => whnf
    try simp (disch := omega) only [bg_w_id, Int.toNat_natCast, rw_land, sh_land, not_true_eq_false]
    refine s_in_f (d + 7) _ _ _ _ _ (by omega) (by omega) (by omega) (by omega) ?_
    conv => whnf
    refine hX _ ?_; conv => whnf
    refine ⟨fun q7 => ?_, fun q7 => ?_⟩
    · exfalso
      (try simp (disch := omega) only [bg_w_id, Int.toNat_natCast, rw_land, sh_land, not_true_eq_false, kc0, kc1, kc2, kc3, kc4, kc5, kc6, kc7, kc8, kc9, kc10, kc11, kc12, kc13, kc14, kc15, kc16, kc17, kc18, kc19, kc20, kc21, kc22, kc23, kc24, kc25, kc26, kc27, kc28, kc29, kc30, kc31, kc32, kc33] at q7) <;> (omega)
    · try simp (disch := omega) only [bg_w_id, Int.toNat_natCast, rw_land, sh_land, not_true_eq_false, kc0, kc1, kc2, kc3, kc4, kc5, kc6, kc7, kc8, kc9, kc10, kc11, kc12, kc13, kc14, kc15, kc16, kc17, kc18, kc19, kc20, kc21, kc22, kc23, kc24, kc25, kc26, kc27, kc28, kc29, kc30, kc31, kc32, kc33] at q7
      refine hX _ ?_; conv => whnf
      refine hX _ ?_; conv => whnf
      exact hR0 c
theorem s_mchance (d n : Nat) (sd k part : Int) (hs : i32 sd) (hk : i32 k) (hp : i32 part) (h : bg_G) (ho : okM h) (hw : wayL h) (hlo : lotM h) (hG : BG (b4 h)) (Rt : bg_R) (hR1 : ((0 ≤ sd ∧ sd ≤ 1) ∧ (0 ≤ k ∧ k ≤ 3) ∧ (0 ≤ part ∧ part ≤ 1) ∧ 0 ≤ (if sd = 0 then h 122 k else h 123 k)) → ∀ q a b, FST (b4 h) (tgM h) (tcM h) q a b → ∀ h' : bg_G, frPl h h' → Rt (some (.inr (.inl (lowI (sgW (b4 h) a b * (if sd = 0 then GP (b4 h) a b k.toNat else CP (b4 h) a b k.toNat)) (sgW (b4 h) a b * WW (b4 h) a b) part)))) (bg_SH n, h')) (hR2 : ((0 ≤ sd ∧ sd ≤ 1) ∧ (0 ≤ k ∧ k ≤ 3) ∧ (0 ≤ part ∧ part ≤ 1) ∧ 0 ≤ (if sd = 0 then h 122 k else h 123 k)) → (∀ k a b, rg3 k a b → ¬ SUP (b4 h) (tgM h) (tcM h) k a b) → ∀ h' : bg_G, frPl h h' → Rt (some (.inr (.inl (-2)))) (bg_SH n, h')) (hR0 : ¬ ((0 ≤ sd ∧ sd ≤ 1) ∧ (0 ≤ k ∧ k ≤ 3) ∧ (0 ≤ part ∧ part ≤ 1) ∧ 0 ≤ (if sd = 0 then h 122 k else h 123 k)) → Rt (some (.inr (.inl (-1)))) (bg_SH n, h)) : bg_Ca bg_MS (d + 9) 179 [vR 115, vI sd, vI k, vI part] (bg_SH n, h) Rt := by
  have rl : ∀ k : Nat, k < 4 → i32 (h 122 k) ∧ i32 (h 123 k) := fun k hk => by
    have x := hlo k hk
    have wl : (wsM h).length ≤ 400 := wsG_len _ _ _
    refine ⟨?_, by omega⟩
    rcases x.1 with e | ⟨e1, e2⟩
    · omega
    · have := e1.1
      omega
  refine bg_ca (cd := cd_X9_chance) rfl rfl ?_
  intro X hX
  by_cases c1 : 0 ≤ sd ∧ sd ≤ 1
  · by_cases c2 : 0 ≤ k ∧ k ≤ 3
    · by_cases c3 : 0 ≤ part ∧ part ≤ 1
      · obtain ⟨u, rfl⟩ : ∃ u : Nat, k = u := ⟨k.toNat, by omega⟩
        have eto : bt (toldM h sd) (u : Int) = if 0 ≤ (if sd = 0 then h 122 (u : Int) else h 123 (u : Int)) then 1 else 0 := by
          by_cases z : sd = 0
          · rw [z, toldM_0, tSet_bt _ (by omega)]
            rfl
          · have z1 : sd = 1 := by omega
            rw [z1, toldM_1, tSet_bt _ (by omega)]
            rfl
        by_cases c4 : 0 ≤ (if sd = 0 then h 122 (u : Int) else h 123 (u : Int))
        · rw [if_pos c4] at eto
          have hR1 := hR1 ⟨c1, c2, c3, c4⟩
          have hR2 := hR2 ⟨c1, c2, c3, c4⟩
          have go : bg_Ca bg_MS (d + 8) 175 [vR 115] (bg_SH n, h) (fun r H' => X (52, [oR 115, oI sd, oI (u : Int), oI part], bg_push r [], H', (0, 0))) := by
            refine s_mplay d n h ho hw hlo hG _ (fun k a b hf h' f sl => ?_) (fun hno h' f => ?_)
            · obtain ⟨w, w1, w2, w3⟩ := mix_w hG hf.2.1.2.2.1
              obtain ⟨⟨p, p1, p2⟩, ⟨p', p1', p2'⟩⟩ := mix_p hG hf.2.1.2.2.1 (k := u) (by omega)
              have hR1 := hR1 k a b hf h' f
              rw [Int.toNat_natCast, w1] at hR1
              have e4 : h' 115 29 = (w : Int) := sl.2.1.trans w1
              by_cases z : sd = 0
              · rw [if_pos z, p1] at hR1
                have e61 : h' 136 (4 * sd + (u : Int)) = (p : Int) := by
                  rw [z, show (4 : Int) * 0 + (u : Int) = u by omega]
                  exact (sl.2.2 u (by omega)).1.trans p1
                refine hX _ ?_; conv => whnf
                refine ⟨fun q52 => ?_, fun q52 => ?_⟩
                · exfalso
                  (try simp (disch := omega) only [bg_w_id, Int.toNat_natCast, rw_land, sh_land, not_true_eq_false, e61, e4, kc0, kc1, kc2, kc3, kc4, kc5, kc6, kc7, kc8, kc9, kc10, kc11, kc12, kc13, kc14, kc15, kc16, kc17, kc18, kc19, kc20, kc21, kc22, kc23, kc24, kc25, kc26, kc27, kc28, kc29, kc30, kc31, kc32, kc33] at q52) <;> (omega)
                · try simp (disch := omega) only [bg_w_id, Int.toNat_natCast, rw_land, sh_land, not_true_eq_false, e61, e4, kc0, kc1, kc2, kc3, kc4, kc5, kc6, kc7, kc8, kc9, kc10, kc11, kc12, kc13, kc14, kc15, kc16, kc17, kc18, kc19, kc20, kc21, kc22, kc23, kc24, kc25, kc26, kc27, kc28, kc29, kc30, kc31, kc32, kc33] at q52
                  iterate 7 (refine hX _ ?_; conv => whnf)
                  refine hX _ ?_; conv => whnf
                  try (simp (disch := omega) only [bg_w_id, Int.toNat_natCast, rw_land, sh_land, not_true_eq_false, e61, e4]; try conv => whnf)
                  refine ⟨by first | omega | (simp (disch := omega) only [bg_w_id, Int.toNat_natCast, rw_land, sh_land, not_true_eq_false, e61, e4]; omega), ?_⟩
                  iterate 3 (refine hX _ ?_; conv => whnf)
                  try simp only [kc0, kc1, kc2, kc3, kc4, kc5, kc6, kc7, kc8, kc9, kc10, kc11, kc12, kc13, kc14, kc15, kc16, kc17, kc18, kc19, kc20, kc21, kc22, kc23, kc24, kc25, kc26, kc27, kc28, kc29, kc30, kc31, kc32, kc33]
                  refine hX _ ?_; conv => whnf
                  try simp (disch := omega) only [bg_w_id, Int.toNat_natCast, rw_land, sh_land, not_true_eq_false, e61, e4]
                  try rw [e61]
                  try rw [e4]
                  refine s_mlowest (d + 6) p w part c3 ⟨w2, w3⟩ p2 _ _ ?_
                  conv => whnf
                  refine hX _ ?_; conv => whnf
                  refine hX _ ?_; conv => whnf
                  exact hR1
              · have z1 : sd = 1 := by omega
                rw [if_neg z, p1'] at hR1
                have e61 : h' 136 (4 * sd + (u : Int)) = (p' : Int) := by
                  rw [z1, show (4 : Int) * 1 + (u : Int) = 4 + (u : Int) by omega]
                  exact (sl.2.2 u (by omega)).2.trans p1'
                refine hX _ ?_; conv => whnf
                refine ⟨fun q52 => ?_, fun q52 => ?_⟩
                · exfalso
                  (try simp (disch := omega) only [bg_w_id, Int.toNat_natCast, rw_land, sh_land, not_true_eq_false, e61, e4, kc0, kc1, kc2, kc3, kc4, kc5, kc6, kc7, kc8, kc9, kc10, kc11, kc12, kc13, kc14, kc15, kc16, kc17, kc18, kc19, kc20, kc21, kc22, kc23, kc24, kc25, kc26, kc27, kc28, kc29, kc30, kc31, kc32, kc33] at q52) <;> (omega)
                · try simp (disch := omega) only [bg_w_id, Int.toNat_natCast, rw_land, sh_land, not_true_eq_false, e61, e4, kc0, kc1, kc2, kc3, kc4, kc5, kc6, kc7, kc8, kc9, kc10, kc11, kc12, kc13, kc14, kc15, kc16, kc17, kc18, kc19, kc20, kc21, kc22, kc23, kc24, kc25, kc26, kc27, kc28, kc29, kc30, kc31, kc32, kc33] at q52
                  iterate 7 (refine hX _ ?_; conv => whnf)
                  refine hX _ ?_; conv => whnf
                  try (simp (disch := omega) only [bg_w_id, Int.toNat_natCast, rw_land, sh_land, not_true_eq_false, e61, e4]; try conv => whnf)
                  refine ⟨by first | omega | (simp (disch := omega) only [bg_w_id, Int.toNat_natCast, rw_land, sh_land, not_true_eq_false, e61, e4]; omega), ?_⟩
                  iterate 3 (refine hX _ ?_; conv => whnf)
                  try simp only [kc0, kc1, kc2, kc3, kc4, kc5, kc6, kc7, kc8, kc9, kc10, kc11, kc12, kc13, kc14, kc15, kc16, kc17, kc18, kc19, kc20, kc21, kc22, kc23, kc24, kc25, kc26, kc27, kc28, kc29, kc30, kc31, kc32, kc33]
                  refine hX _ ?_; conv => whnf
                  try simp (disch := omega) only [bg_w_id, Int.toNat_natCast, rw_land, sh_land, not_true_eq_false, e61, e4]
                  try rw [e61]
                  try rw [e4]
                  refine s_mlowest (d + 6) p' w part c3 ⟨w2, w3⟩ p2' _ _ ?_
                  conv => whnf
                  refine hX _ ?_; conv => whnf
                  refine hX _ ?_; conv => whnf
                  exact hR1
            · refine hX _ ?_; conv => whnf
              refine ⟨fun q52 => ?_, fun q52 => ?_⟩
              · try simp (disch := omega) only [bg_w_id, Int.toNat_natCast, rw_land, sh_land, not_true_eq_false, kc0, kc1, kc2, kc3, kc4, kc5, kc6, kc7, kc8, kc9, kc10, kc11, kc12, kc13, kc14, kc15, kc16, kc17, kc18, kc19, kc20, kc21, kc22, kc23, kc24, kc25, kc26, kc27, kc28, kc29, kc30, kc31, kc32, kc33] at q52
                refine hX _ ?_; conv => whnf
                refine hX _ ?_; conv => whnf
                exact hR2 hno h' f
              · exfalso
                (try simp (disch := omega) only [bg_w_id, Int.toNat_natCast, rw_land, sh_land, not_true_eq_false, kc0, kc1, kc2, kc3, kc4, kc5, kc6, kc7, kc8, kc9, kc10, kc11, kc12, kc13, kc14, kc15, kc16, kc17, kc18, kc19, kc20, kc21, kc22, kc23, kc24, kc25, kc26, kc27, kc28, kc29, kc30, kc31, kc32, kc33] at q52) <;> (omega)
          iterate 4 (refine hX _ ?_; conv => whnf)
          try simp (disch := omega) only [bg_w_id, Int.toNat_natCast, rw_land, sh_land, not_true_eq_false]
          refine hX _ ?_; conv => whnf
          try simp (disch := omega) only [bg_w_id, Int.toNat_natCast, rw_land, sh_land, not_true_eq_false]
          refine s_in_t (d + 7) _ _ _ _ _ (by omega) (by omega) (by omega) (by omega) ?_
          conv => whnf
          refine hX _ ?_; conv => whnf
          refine ⟨fun q7 => ?_, fun q7 => ?_⟩
          · exfalso
            (try simp (disch := omega) only [bg_w_id, Int.toNat_natCast, rw_land, sh_land, not_true_eq_false, kc0, kc1, kc2, kc3, kc4, kc5, kc6, kc7, kc8, kc9, kc10, kc11, kc12, kc13, kc14, kc15, kc16, kc17, kc18, kc19, kc20, kc21, kc22, kc23, kc24, kc25, kc26, kc27, kc28, kc29, kc30, kc31, kc32, kc33] at q7) <;> (omega)
          · try simp (disch := omega) only [bg_w_id, Int.toNat_natCast, rw_land, sh_land, not_true_eq_false, kc0, kc1, kc2, kc3, kc4, kc5, kc6, kc7, kc8, kc9, kc10, kc11, kc12, kc13, kc14, kc15, kc16, kc17, kc18, kc19, kc20, kc21, kc22, kc23, kc24, kc25, kc26, kc27, kc28, kc29, kc30, kc31, kc32, kc33] at q7
            iterate 4 (refine hX _ ?_; conv => whnf)
            try simp (disch := omega) only [bg_w_id, Int.toNat_natCast, rw_land, sh_land, not_true_eq_false]
            refine hX _ ?_; conv => whnf
            try simp (disch := omega) only [bg_w_id, Int.toNat_natCast, rw_land, sh_land, not_true_eq_false]
            refine s_in_t (d + 7) _ _ _ _ _ (by omega) (by omega) (by omega) (by omega) ?_
            conv => whnf
            refine hX _ ?_; conv => whnf
            refine ⟨fun q19 => ?_, fun q19 => ?_⟩
            · exfalso
              (try simp (disch := omega) only [bg_w_id, Int.toNat_natCast, rw_land, sh_land, not_true_eq_false, kc0, kc1, kc2, kc3, kc4, kc5, kc6, kc7, kc8, kc9, kc10, kc11, kc12, kc13, kc14, kc15, kc16, kc17, kc18, kc19, kc20, kc21, kc22, kc23, kc24, kc25, kc26, kc27, kc28, kc29, kc30, kc31, kc32, kc33] at q19) <;> (omega)
            · try simp (disch := omega) only [bg_w_id, Int.toNat_natCast, rw_land, sh_land, not_true_eq_false, kc0, kc1, kc2, kc3, kc4, kc5, kc6, kc7, kc8, kc9, kc10, kc11, kc12, kc13, kc14, kc15, kc16, kc17, kc18, kc19, kc20, kc21, kc22, kc23, kc24, kc25, kc26, kc27, kc28, kc29, kc30, kc31, kc32, kc33] at q19
              iterate 4 (refine hX _ ?_; conv => whnf)
              try simp (disch := omega) only [bg_w_id, Int.toNat_natCast, rw_land, sh_land, not_true_eq_false]
              refine hX _ ?_; conv => whnf
              try simp (disch := omega) only [bg_w_id, Int.toNat_natCast, rw_land, sh_land, not_true_eq_false]
              refine s_in_t (d + 7) _ _ _ _ _ (by omega) (by omega) (by omega) (by omega) ?_
              conv => whnf
              refine hX _ ?_; conv => whnf
              refine ⟨fun q29 => ?_, fun q29 => ?_⟩
              · exfalso
                (try simp (disch := omega) only [bg_w_id, Int.toNat_natCast, rw_land, sh_land, not_true_eq_false, kc0, kc1, kc2, kc3, kc4, kc5, kc6, kc7, kc8, kc9, kc10, kc11, kc12, kc13, kc14, kc15, kc16, kc17, kc18, kc19, kc20, kc21, kc22, kc23, kc24, kc25, kc26, kc27, kc28, kc29, kc30, kc31, kc32, kc33] at q29) <;> (omega)
              · try simp (disch := omega) only [bg_w_id, Int.toNat_natCast, rw_land, sh_land, not_true_eq_false, kc0, kc1, kc2, kc3, kc4, kc5, kc6, kc7, kc8, kc9, kc10, kc11, kc12, kc13, kc14, kc15, kc16, kc17, kc18, kc19, kc20, kc21, kc22, kc23, kc24, kc25, kc26, kc27, kc28, kc29, kc30, kc31, kc32, kc33] at q29
                iterate 2 (refine hX _ ?_; conv => whnf)
                refine hX _ ?_; conv => whnf
                try simp (disch := omega) only [bg_w_id, Int.toNat_natCast, rw_land, sh_land, not_true_eq_false]
                refine s_mtoldOnes (d + 7) n sd c1 h rl _ ?_
                conv => whnf
                refine hX _ ?_; conv => whnf
                refine hX _ ?_; conv => whnf
                try simp (disch := omega) only [bg_w_id, Int.toNat_natCast, rw_land, sh_land, not_true_eq_false]
                refine s_has (d + 7) _ _ _ _ ?_
                rw [eto]
                conv => whnf
                refine hX _ ?_; conv => whnf
                refine ⟨fun q41 => ?_, fun q41 => ?_⟩
                · try simp (disch := omega) only [bg_w_id, Int.toNat_natCast, rw_land, sh_land, not_true_eq_false, kc0, kc1, kc2, kc3, kc4, kc5, kc6, kc7, kc8, kc9, kc10, kc11, kc12, kc13, kc14, kc15, kc16, kc17, kc18, kc19, kc20, kc21, kc22, kc23, kc24, kc25, kc26, kc27, kc28, kc29, kc30, kc31, kc32, kc33] at q41
                  refine hX _ ?_; conv => whnf
                  refine hX _ ?_; conv => whnf
                  exact go
                · exfalso
                  (try simp (disch := omega) only [bg_w_id, Int.toNat_natCast, rw_land, sh_land, not_true_eq_false, kc0, kc1, kc2, kc3, kc4, kc5, kc6, kc7, kc8, kc9, kc10, kc11, kc12, kc13, kc14, kc15, kc16, kc17, kc18, kc19, kc20, kc21, kc22, kc23, kc24, kc25, kc26, kc27, kc28, kc29, kc30, kc31, kc32, kc33] at q41) <;> (omega)
        · rw [if_neg c4] at eto
          iterate 4 (refine hX _ ?_; conv => whnf)
          try simp (disch := omega) only [bg_w_id, Int.toNat_natCast, rw_land, sh_land, not_true_eq_false]
          refine hX _ ?_; conv => whnf
          try simp (disch := omega) only [bg_w_id, Int.toNat_natCast, rw_land, sh_land, not_true_eq_false]
          refine s_in_t (d + 7) _ _ _ _ _ (by omega) (by omega) (by omega) (by omega) ?_
          conv => whnf
          refine hX _ ?_; conv => whnf
          refine ⟨fun q7 => ?_, fun q7 => ?_⟩
          · exfalso
            (try simp (disch := omega) only [bg_w_id, Int.toNat_natCast, rw_land, sh_land, not_true_eq_false, kc0, kc1, kc2, kc3, kc4, kc5, kc6, kc7, kc8, kc9, kc10, kc11, kc12, kc13, kc14, kc15, kc16, kc17, kc18, kc19, kc20, kc21, kc22, kc23, kc24, kc25, kc26, kc27, kc28, kc29, kc30, kc31, kc32, kc33] at q7) <;> (omega)
          · try simp (disch := omega) only [bg_w_id, Int.toNat_natCast, rw_land, sh_land, not_true_eq_false, kc0, kc1, kc2, kc3, kc4, kc5, kc6, kc7, kc8, kc9, kc10, kc11, kc12, kc13, kc14, kc15, kc16, kc17, kc18, kc19, kc20, kc21, kc22, kc23, kc24, kc25, kc26, kc27, kc28, kc29, kc30, kc31, kc32, kc33] at q7
            iterate 4 (refine hX _ ?_; conv => whnf)
            try simp (disch := omega) only [bg_w_id, Int.toNat_natCast, rw_land, sh_land, not_true_eq_false]
            refine hX _ ?_; conv => whnf
            try simp (disch := omega) only [bg_w_id, Int.toNat_natCast, rw_land, sh_land, not_true_eq_false]
            refine s_in_t (d + 7) _ _ _ _ _ (by omega) (by omega) (by omega) (by omega) ?_
            conv => whnf
            refine hX _ ?_; conv => whnf
            refine ⟨fun q19 => ?_, fun q19 => ?_⟩
            · exfalso
              (try simp (disch := omega) only [bg_w_id, Int.toNat_natCast, rw_land, sh_land, not_true_eq_false, kc0, kc1, kc2, kc3, kc4, kc5, kc6, kc7, kc8, kc9, kc10, kc11, kc12, kc13, kc14, kc15, kc16, kc17, kc18, kc19, kc20, kc21, kc22, kc23, kc24, kc25, kc26, kc27, kc28, kc29, kc30, kc31, kc32, kc33] at q19) <;> (omega)
            · try simp (disch := omega) only [bg_w_id, Int.toNat_natCast, rw_land, sh_land, not_true_eq_false, kc0, kc1, kc2, kc3, kc4, kc5, kc6, kc7, kc8, kc9, kc10, kc11, kc12, kc13, kc14, kc15, kc16, kc17, kc18, kc19, kc20, kc21, kc22, kc23, kc24, kc25, kc26, kc27, kc28, kc29, kc30, kc31, kc32, kc33] at q19
              iterate 4 (refine hX _ ?_; conv => whnf)
              try simp (disch := omega) only [bg_w_id, Int.toNat_natCast, rw_land, sh_land, not_true_eq_false]
              refine hX _ ?_; conv => whnf
              try simp (disch := omega) only [bg_w_id, Int.toNat_natCast, rw_land, sh_land, not_true_eq_false]
              refine s_in_t (d + 7) _ _ _ _ _ (by omega) (by omega) (by omega) (by omega) ?_
              conv => whnf
              refine hX _ ?_; conv => whnf
              refine ⟨fun q29 => ?_, fun q29 => ?_⟩
              · exfalso
                (try simp (disch := omega) only [bg_w_id, Int.toNat_natCast, rw_land, sh_land, not_true_eq_false, kc0, kc1, kc2, kc3, kc4, kc5, kc6, kc7, kc8, kc9, kc10, kc11, kc12, kc13, kc14, kc15, kc16, kc17, kc18, kc19, kc20, kc21, kc22, kc23, kc24, kc25, kc26, kc27, kc28, kc29, kc30, kc31, kc32, kc33] at q29) <;> (omega)
              · try simp (disch := omega) only [bg_w_id, Int.toNat_natCast, rw_land, sh_land, not_true_eq_false, kc0, kc1, kc2, kc3, kc4, kc5, kc6, kc7, kc8, kc9, kc10, kc11, kc12, kc13, kc14, kc15, kc16, kc17, kc18, kc19, kc20, kc21, kc22, kc23, kc24, kc25, kc26, kc27, kc28, kc29, kc30, kc31, kc32, kc33] at q29
                iterate 2 (refine hX _ ?_; conv => whnf)
                refine hX _ ?_; conv => whnf
                try simp (disch := omega) only [bg_w_id, Int.toNat_natCast, rw_land, sh_land, not_true_eq_false]
                refine s_mtoldOnes (d + 7) n sd c1 h rl _ ?_
                conv => whnf
                refine hX _ ?_; conv => whnf
                refine hX _ ?_; conv => whnf
                try simp (disch := omega) only [bg_w_id, Int.toNat_natCast, rw_land, sh_land, not_true_eq_false]
                refine s_has (d + 7) _ _ _ _ ?_
                rw [eto]
                conv => whnf
                refine hX _ ?_; conv => whnf
                refine ⟨fun q41 => ?_, fun q41 => ?_⟩
                · exfalso
                  (try simp (disch := omega) only [bg_w_id, Int.toNat_natCast, rw_land, sh_land, not_true_eq_false, kc0, kc1, kc2, kc3, kc4, kc5, kc6, kc7, kc8, kc9, kc10, kc11, kc12, kc13, kc14, kc15, kc16, kc17, kc18, kc19, kc20, kc21, kc22, kc23, kc24, kc25, kc26, kc27, kc28, kc29, kc30, kc31, kc32, kc33] at q41) <;> (omega)
                · try simp (disch := omega) only [bg_w_id, Int.toNat_natCast, rw_land, sh_land, not_true_eq_false, kc0, kc1, kc2, kc3, kc4, kc5, kc6, kc7, kc8, kc9, kc10, kc11, kc12, kc13, kc14, kc15, kc16, kc17, kc18, kc19, kc20, kc21, kc22, kc23, kc24, kc25, kc26, kc27, kc28, kc29, kc30, kc31, kc32, kc33] at q41
                  refine hX _ ?_; conv => whnf
                  refine hX _ ?_; conv => whnf
                  exact hR0 (fun x => c4 x.2.2.2)
      · iterate 4 (refine hX _ ?_; conv => whnf)
        try simp (disch := omega) only [bg_w_id, Int.toNat_natCast, rw_land, sh_land, not_true_eq_false]
        refine hX _ ?_; conv => whnf
        try simp (disch := omega) only [bg_w_id, Int.toNat_natCast, rw_land, sh_land, not_true_eq_false]
        refine s_in_t (d + 7) _ _ _ _ _ (by omega) (by omega) (by omega) (by omega) ?_
        conv => whnf
        refine hX _ ?_; conv => whnf
        refine ⟨fun q7 => ?_, fun q7 => ?_⟩
        · exfalso
          (try simp (disch := omega) only [bg_w_id, Int.toNat_natCast, rw_land, sh_land, not_true_eq_false, kc0, kc1, kc2, kc3, kc4, kc5, kc6, kc7, kc8, kc9, kc10, kc11, kc12, kc13, kc14, kc15, kc16, kc17, kc18, kc19, kc20, kc21, kc22, kc23, kc24, kc25, kc26, kc27, kc28, kc29, kc30, kc31, kc32, kc33] at q7) <;> (omega)
        · try simp (disch := omega) only [bg_w_id, Int.toNat_natCast, rw_land, sh_land, not_true_eq_false, kc0, kc1, kc2, kc3, kc4, kc5, kc6, kc7, kc8, kc9, kc10, kc11, kc12, kc13, kc14, kc15, kc16, kc17, kc18, kc19, kc20, kc21, kc22, kc23, kc24, kc25, kc26, kc27, kc28, kc29, kc30, kc31, kc32, kc33] at q7
          iterate 4 (refine hX _ ?_; conv => whnf)
          try simp (disch := omega) only [bg_w_id, Int.toNat_natCast, rw_land, sh_land, not_true_eq_false]
          refine hX _ ?_; conv => whnf
          try simp (disch := omega) only [bg_w_id, Int.toNat_natCast, rw_land, sh_land, not_true_eq_false]
          refine s_in_t (d + 7) _ _ _ _ _ (by omega) (by omega) (by omega) (by omega) ?_
          conv => whnf
          refine hX _ ?_; conv => whnf
          refine ⟨fun q19 => ?_, fun q19 => ?_⟩
          · exfalso
            (try simp (disch := omega) only [bg_w_id, Int.toNat_natCast, rw_land, sh_land, not_true_eq_false, kc0, kc1, kc2, kc3, kc4, kc5, kc6, kc7, kc8, kc9, kc10, kc11, kc12, kc13, kc14, kc15, kc16, kc17, kc18, kc19, kc20, kc21, kc22, kc23, kc24, kc25, kc26, kc27, kc28, kc29, kc30, kc31, kc32, kc33] at q19) <;> (omega)
          · try simp (disch := omega) only [bg_w_id, Int.toNat_natCast, rw_land, sh_land, not_true_eq_false, kc0, kc1, kc2, kc3, kc4, kc5, kc6, kc7, kc8, kc9, kc10, kc11, kc12, kc13, kc14, kc15, kc16, kc17, kc18, kc19, kc20, kc21, kc22, kc23, kc24, kc25, kc26, kc27, kc28, kc29, kc30, kc31, kc32, kc33] at q19
            iterate 4 (refine hX _ ?_; conv => whnf)
            try simp (disch := omega) only [bg_w_id, Int.toNat_natCast, rw_land, sh_land, not_true_eq_false]
            refine hX _ ?_; conv => whnf
            try simp (disch := omega) only [bg_w_id, Int.toNat_natCast, rw_land, sh_land, not_true_eq_false]
            refine s_in_f (d + 7) _ _ _ _ _ (by omega) (by omega) (by omega) (by omega) ?_
            conv => whnf
            refine hX _ ?_; conv => whnf
            refine ⟨fun q29 => ?_, fun q29 => ?_⟩
            · try simp (disch := omega) only [bg_w_id, Int.toNat_natCast, rw_land, sh_land, not_true_eq_false, kc0, kc1, kc2, kc3, kc4, kc5, kc6, kc7, kc8, kc9, kc10, kc11, kc12, kc13, kc14, kc15, kc16, kc17, kc18, kc19, kc20, kc21, kc22, kc23, kc24, kc25, kc26, kc27, kc28, kc29, kc30, kc31, kc32, kc33] at q29
              refine hX _ ?_; conv => whnf
              refine hX _ ?_; conv => whnf
              exact hR0 (fun x => c3 x.2.2.1)
            · exfalso
              (try simp (disch := omega) only [bg_w_id, Int.toNat_natCast, rw_land, sh_land, not_true_eq_false, kc0, kc1, kc2, kc3, kc4, kc5, kc6, kc7, kc8, kc9, kc10, kc11, kc12, kc13, kc14, kc15, kc16, kc17, kc18, kc19, kc20, kc21, kc22, kc23, kc24, kc25, kc26, kc27, kc28, kc29, kc30, kc31, kc32, kc33] at q29) <;> (omega)
    · iterate 4 (refine hX _ ?_; conv => whnf)
      try simp (disch := omega) only [bg_w_id, Int.toNat_natCast, rw_land, sh_land, not_true_eq_false]
      refine hX _ ?_; conv => whnf
      try simp (disch := omega) only [bg_w_id, Int.toNat_natCast, rw_land, sh_land, not_true_eq_false]
      refine s_in_t (d + 7) _ _ _ _ _ (by omega) (by omega) (by omega) (by omega) ?_
      conv => whnf
      refine hX _ ?_; conv => whnf
      refine ⟨fun q7 => ?_, fun q7 => ?_⟩
      · exfalso
        (try simp (disch := omega) only [bg_w_id, Int.toNat_natCast, rw_land, sh_land, not_true_eq_false, kc0, kc1, kc2, kc3, kc4, kc5, kc6, kc7, kc8, kc9, kc10, kc11, kc12, kc13, kc14, kc15, kc16, kc17, kc18, kc19, kc20, kc21, kc22, kc23, kc24, kc25, kc26, kc27, kc28, kc29, kc30, kc31, kc32, kc33] at q7) <;> (omega)
      · try simp (disch := omega) only [bg_w_id, Int.toNat_natCast, rw_land, sh_land, not_true_eq_false, kc0, kc1, kc2, kc3, kc4, kc5, kc6, kc7, kc8, kc9, kc10, kc11, kc12, kc13, kc14, kc15, kc16, kc17, kc18, kc19, kc20, kc21, kc22, kc23, kc24, kc25, kc26, kc27, kc28, kc29, kc30, kc31, kc32, kc33] at q7
        iterate 4 (refine hX _ ?_; conv => whnf)
        try simp (disch := omega) only [bg_w_id, Int.toNat_natCast, rw_land, sh_land, not_true_eq_false]
        refine hX _ ?_; conv => whnf
        try simp (disch := omega) only [bg_w_id, Int.toNat_natCast, rw_land, sh_land, not_true_eq_false]
        refine s_in_f (d + 7) _ _ _ _ _ (by omega) (by omega) (by omega) (by omega) ?_
        conv => whnf
        refine hX _ ?_; conv => whnf
        refine ⟨fun q19 => ?_, fun q19 => ?_⟩
        · try simp (disch := omega) only [bg_w_id, Int.toNat_natCast, rw_land, sh_land, not_true_eq_false, kc0, kc1, kc2, kc3, kc4, kc5, kc6, kc7, kc8, kc9, kc10, kc11, kc12, kc13, kc14, kc15, kc16, kc17, kc18, kc19, kc20, kc21, kc22, kc23, kc24, kc25, kc26, kc27, kc28, kc29, kc30, kc31, kc32, kc33] at q19
          refine hX _ ?_; conv => whnf
          refine hX _ ?_; conv => whnf
          exact hR0 (fun x => c2 x.2.1)
        · exfalso
          (try simp (disch := omega) only [bg_w_id, Int.toNat_natCast, rw_land, sh_land, not_true_eq_false, kc0, kc1, kc2, kc3, kc4, kc5, kc6, kc7, kc8, kc9, kc10, kc11, kc12, kc13, kc14, kc15, kc16, kc17, kc18, kc19, kc20, kc21, kc22, kc23, kc24, kc25, kc26, kc27, kc28, kc29, kc30, kc31, kc32, kc33] at q19) <;> (omega)
  · iterate 4 (refine hX _ ?_; conv => whnf)
    try simp (disch := omega) only [bg_w_id, Int.toNat_natCast, rw_land, sh_land, not_true_eq_false]
    refine hX _ ?_; conv => whnf
    try simp (disch := omega) only [bg_w_id, Int.toNat_natCast, rw_land, sh_land, not_true_eq_false]
    refine s_in_f (d + 7) _ _ _ _ _ (by omega) (by omega) (by omega) (by omega) ?_
    conv => whnf
    refine hX _ ?_; conv => whnf
    refine ⟨fun q7 => ?_, fun q7 => ?_⟩
    · try simp (disch := omega) only [bg_w_id, Int.toNat_natCast, rw_land, sh_land, not_true_eq_false, kc0, kc1, kc2, kc3, kc4, kc5, kc6, kc7, kc8, kc9, kc10, kc11, kc12, kc13, kc14, kc15, kc16, kc17, kc18, kc19, kc20, kc21, kc22, kc23, kc24, kc25, kc26, kc27, kc28, kc29, kc30, kc31, kc32, kc33] at q7
      refine hX _ ?_; conv => whnf
      refine hX _ ?_; conv => whnf
      exact hR0 (fun x => c1 x.1)
    · exfalso
      (try simp (disch := omega) only [bg_w_id, Int.toNat_natCast, rw_land, sh_land, not_true_eq_false, kc0, kc1, kc2, kc3, kc4, kc5, kc6, kc7, kc8, kc9, kc10, kc11, kc12, kc13, kc14, kc15, kc16, kc17, kc18, kc19, kc20, kc21, kc22, kc23, kc24, kc25, kc26, kc27, kc28, kc29, kc30, kc31, kc32, kc33] at q7) <;> (omega)
theorem INV_pl {h h' : bg_G} (hI : INV h) (f : frPl h h') : INV h' := by
  have r := inv_REL hI
  have hn := r.2.1.1.1
  have e : ∀ k, k ≠ 115 → k ≠ 127 → k ≠ 128 → k ≠ 133 → k ≠ 135 → k ≠ 136 → k ≠ 137 → h' k = h k := f.1
  have a : ag0 h h' := ag0_fr (e _ (by omega) (by omega) (by omega) (by omega) (by omega) (by omega) (by omega)) (e _ (by omega) (by omega) (by omega) (by omega) (by omega) (by omega) (by omega)) (e _ (by omega) (by omega) (by omega) (by omega) (by omega) (by omega) (by omega)) (e _ (by omega) (by omega) (by omega) (by omega) (by omega) (by omega) (by omega)) (e _ (by omega) (by omega) (by omega) (by omega) (by omega) (by omega) (by omega))
  exact INV_soft hI ⟨fun k hk => by unfold scr at hk; exact e k (by omega) (by omega) (by omega) (by omega) (by omega) (by omega) (by omega), fun j hj => by rw [e 3 (by omega) (by omega) (by omega) (by omega) (by omega) (by omega) (by omega)], fun j j1 j2 j3 j4 j5 j6 j7 => f.2.1 j j2 j3 j6 j7, b012_fr (fun k a b => e k (by omega) (by omega) (by omega) (by omega) (by omega) (by omega) (by omega))⟩ (rgB_fr hI.2.2.1.2.2.2 (e _ (by omega) (by omega) (by omega) (by omega) (by omega) (by omega) (by omega)) (e _ (by omega) (by omega) (by omega) (by omega) (by omega) (by omega) (by omega))) (ag_PL a hn.2 (fun k a b => e k (by omega) (by omega) (by omega) (by omega) (by omega) (by omega) (by omega)) (inv_PL hI)) (ag_PP a r.2.1 (by rw [e 46 (by omega) (by omega) (by omega) (by omega) (by omega) (by omega) (by omega)]) (by rw [e 46 (by omega) (by omega) (by omega) (by omega) (by omega) (by omega) (by omega)]) (inv_PP hI)) (ag_lie a hn.2 (f.2.1 12 (by omega) (by omega) (by omega) (by omega)) (e _ (by omega) (by omega) (by omega) (by omega) (by omega) (by omega) (by omega)) hI.2.2.2.2.2.1.2.2.1) (Or.inr ⟨f.2.2.2.1, f.2.2.2.2.1⟩)
theorem FST_uq {B : Nat → Nat → Int} {tG tC k a b k' a' b' : Nat} (x : FST B tG tC k a b) (y : FST B tG tC k' a' b') : k = k' ∧ a = a' ∧ b = b' := by
  have p := x.2.2 k' a' b' y.1 y.2.1
  have q := y.2.2 k a b x.1 x.2.1
  omega
theorem gm_66 {h h1 : bg_G} (f : ∀ k, ¬ (56 ≤ k ∧ k ≤ 67) → h1 k = h k) : b4 h1 = b4 h ∧ tgM h1 = tgM h ∧ tcM h1 = tcM h := ⟨b4_fr (fun k a b => f k (by omega)), tgM_fr (f _ (by omega)), tcM_fr (f _ (by omega))⟩
theorem op_value (n : Nat) (h : bg_G) (hI : INV h) (part : Int) (hp : i32 part) : OPL n 7 100 [vR 2, vI part] 9 178 [vR 115, vI part] h := by
  intro d Rt kk
  have mv : ∀ h1 : bg_G, INV h1 → ∀ (d2 : Nat) (R2 : bg_R), _ := fun h1 hI1 d2 R2 => s_mvalue d2 n part hp h1 (inv_REL hI1).2.1 (inv_way hI1) (inv_lot hI1).1 (b4_G hI1) R2
  refine s_cvalue d n part hp h hI Rt (fun c k a b hf h1 f => kk _ _ (fun d2 R2 q => ?_)) (fun c hno h1 f => kk _ _ (fun d2 R2 q => ?_)) (fun c => kk _ _ (fun d2 R2 q => ?_))
  · have hI1 := INV_G hI (h' := h1) (fun k hk => f k (by omega))
    obtain ⟨e1, e2, e3⟩ := gm_66 f
    refine mv h1 hI1 d2 R2 (fun _ k' a' b' hf' h2 f2 => ?_) (fun _ hno => ?_) (fun x => absurd c x)
    · rw [e1, e2, e3] at hf'
      obtain ⟨rfl, rfl, rfl⟩ := FST_uq hf hf'
      rw [e1]
      exact q h2 (INV_pl hI1 f2)
    · rw [e1, e2, e3] at hno
      exact absurd hf.2.1 (hno k a b hf.1)
  · have hI1 := INV_G hI (h' := h1) (fun k hk => f k (by omega))
    obtain ⟨e1, e2, e3⟩ := gm_66 f
    refine mv h1 hI1 d2 R2 (fun _ k' a' b' hf' => ?_) (fun _ _ h2 f2 => q h2 (INV_pl hI1 f2)) (fun x => absurd c x)
    rw [e1, e2, e3] at hf'
    exact absurd hf'.2.1 (hno k' a' b' hf'.1)
  · exact mv h hI d2 R2 (fun x => absurd x c) (fun x => absurd x c) (fun _ => q h hI)
theorem op_chance (n : Nat) (h : bg_G) (hI : INV h) (sd k part : Int) (hs : i32 sd) (hk : i32 k) (hp : i32 part) : OPL n 7 101 [vR 2, vI sd, vI k, vI part] 9 179 [vR 115, vI sd, vI k, vI part] h := by
  intro d Rt kk
  have mv : ∀ h1 : bg_G, INV h1 → ∀ (d2 : Nat) (R2 : bg_R), _ := fun h1 hI1 d2 R2 => s_mchance d2 n sd k part hs hk hp h1 (inv_REL hI1).2.1 (inv_way hI1) (inv_lot hI1).1 (b4_G hI1) R2
  refine s_cchance d n sd k part hs hk hp h hI Rt (fun c q a b hf h1 f => kk _ _ (fun d2 R2 w => ?_)) (fun c hno h1 f => kk _ _ (fun d2 R2 w => ?_)) (fun c => kk _ _ (fun d2 R2 w => ?_))
  · have hI1 := INV_G hI (h' := h1) (fun k hk => f k (by omega))
    obtain ⟨e1, e2, e3⟩ := gm_66 f
    have c' : (0 ≤ sd ∧ sd ≤ 1) ∧ (0 ≤ k ∧ k ≤ 3) ∧ (0 ≤ part ∧ part ≤ 1) ∧ 0 ≤ (if sd = 0 then h1 122 k else h1 123 k) := by rw [f 122 (by omega), f 123 (by omega)]; exact c
    refine mv h1 hI1 d2 R2 (fun _ k' a' b' hf' h2 f2 => ?_) (fun _ hno => ?_) (fun x => absurd c' x)
    · rw [e1, e2, e3] at hf'
      obtain ⟨rfl, rfl, rfl⟩ := FST_uq hf hf'
      rw [e1]
      exact w h2 (INV_pl hI1 f2)
    · rw [e1, e2, e3] at hno
      exact absurd hf.2.1 (hno q a b hf.1)
  · have hI1 := INV_G hI (h' := h1) (fun k hk => f k (by omega))
    obtain ⟨e1, e2, e3⟩ := gm_66 f
    have c' : (0 ≤ sd ∧ sd ≤ 1) ∧ (0 ≤ k ∧ k ≤ 3) ∧ (0 ≤ part ∧ part ≤ 1) ∧ 0 ≤ (if sd = 0 then h1 122 k else h1 123 k) := by rw [f 122 (by omega), f 123 (by omega)]; exact c
    refine mv h1 hI1 d2 R2 (fun _ k' a' b' hf' => ?_) (fun _ _ h2 f2 => w h2 (INV_pl hI1 f2)) (fun x => absurd c' x)
    rw [e1, e2, e3] at hf'
    exact absurd hf'.2.1 (hno k' a' b' hf'.1)
  · exact mv h hI d2 R2 (fun x => absurd x c) (fun x => absurd x c) (fun _ => w h hI)
