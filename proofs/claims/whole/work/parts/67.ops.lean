theorem s_mkeep (d n q : Nat) (h : bg_G) (hq : h 115 9 = q) (hq2 : q ≤ 2) (Rt : bg_R) (hR2 : q = 2 → Rt (some (.inl (-3))) (bg_SH n, h)) (hR : q < 2 → ∀ h' : bg_G, (∀ k, k ≠ 115 → k ≠ 117 → k ≠ 118 → k ≠ 119 → k ≠ 120 → k ≠ 121 → k ≠ 122 → k ≠ 123 → h' k = h k) → (∀ j, j ≠ 9 → j ≠ 12 → j ≠ 14 → h' 115 j = h 115 j) → h' 115 9 = (q : Int) + 1 → h' 115 12 = 0 → h' 115 14 = 0 → h' 117 = cp 1 0 (1 + q) 1 (h 117) → h' 118 = cp 84 0 (1 + q) 84 (h 118) → h' 119 = cp 1 0 (1 + q) 1 (h 119) → h' 120 = cp 9 0 (1 + q) 9 (h 120) → h' 121 = cp 3 0 (1 + q) 3 (h 121) → h' 122 = cp 4 0 (1 + q) 4 (h 122) → h' 123 = cp 4 0 (1 + q) 4 (h 123) → Rt (some (.inl ((q : Int) + 1))) (bg_SH n, h')) : bg_Ca bg_MS (d + 3) 184 [vR 115] (bg_SH n, h) Rt := by
  refine bg_ca (cd := cd_X9_keep) rfl rfl ?_
  intro X hX
  by_cases c : q = 2
  · iterate 3 (refine hX _ ?_; conv => whnf)
    try simp only [kc0, kc1, kc2, kc3, kc4, kc5, kc6, kc7, kc8, kc9, kc10, kc11, kc12, kc13, kc14, kc15, kc16, kc17, kc18, kc19, kc20, kc21, kc22, kc23, kc24, kc25, kc26, kc27, kc28, kc29, kc30, kc31, kc32, kc33]
    refine hX _ ?_; conv => whnf
    refine ⟨fun q5 => ?_, fun q5 => ?_⟩
    · exfalso
      (try simp (disch := omega) only [bg_w_id, Int.toNat_natCast, rw_land, sh_land, not_true_eq_false, hq, kc0, kc1, kc2, kc3, kc4, kc5, kc6, kc7, kc8, kc9, kc10, kc11, kc12, kc13, kc14, kc15, kc16, kc17, kc18, kc19, kc20, kc21, kc22, kc23, kc24, kc25, kc26, kc27, kc28, kc29, kc30, kc31, kc32, kc33] at q5) <;> (omega)
    · try simp (disch := omega) only [bg_w_id, Int.toNat_natCast, rw_land, sh_land, not_true_eq_false, hq, kc0, kc1, kc2, kc3, kc4, kc5, kc6, kc7, kc8, kc9, kc10, kc11, kc12, kc13, kc14, kc15, kc16, kc17, kc18, kc19, kc20, kc21, kc22, kc23, kc24, kc25, kc26, kc27, kc28, kc29, kc30, kc31, kc32, kc33] at q5
      refine hX _ ?_; conv => whnf
      refine hX _ ?_; conv => whnf
      exact hR2 c
  · have hR := hR (by omega)
    have e : (1 : Int) + (q : Int) = ((1 + q : Nat) : Int) := by omega
    iterate 3 (refine hX _ ?_; conv => whnf)
    try simp only [kc0, kc1, kc2, kc3, kc4, kc5, kc6, kc7, kc8, kc9, kc10, kc11, kc12, kc13, kc14, kc15, kc16, kc17, kc18, kc19, kc20, kc21, kc22, kc23, kc24, kc25, kc26, kc27, kc28, kc29, kc30, kc31, kc32, kc33]
    refine hX _ ?_; conv => whnf
    refine ⟨fun q5 => ?_, fun q5 => ?_⟩
    · try simp (disch := omega) only [bg_w_id, Int.toNat_natCast, rw_land, sh_land, not_true_eq_false, hq, kc0, kc1, kc2, kc3, kc4, kc5, kc6, kc7, kc8, kc9, kc10, kc11, kc12, kc13, kc14, kc15, kc16, kc17, kc18, kc19, kc20, kc21, kc22, kc23, kc24, kc25, kc26, kc27, kc28, kc29, kc30, kc31, kc32, kc33] at q5
      iterate 6 (refine hX _ ?_; conv => whnf)
      try simp only [kc0, kc1, kc2, kc3, kc4, kc5, kc6, kc7, kc8, kc9, kc10, kc11, kc12, kc13, kc14, kc15, kc16, kc17, kc18, kc19, kc20, kc21, kc22, kc23, kc24, kc25, kc26, kc27, kc28, kc29, kc30, kc31, kc32, kc33]
      refine hX _ ?_; conv => whnf
      try simp (disch := omega) only [bg_w_id, Int.toNat_natCast, rw_land, sh_land, not_true_eq_false, hq]
      rw [e]
      refine s_mcopy d n 0 (1 + q) (by omega) (by omega) (by omega) h _ (fun h1 f1 f2 f3 f4 f5 f6 f7 f8 f9 f10 f11 => ?_)
      conv => whnf
      iterate 8 (refine hX _ ?_; conv => whnf)
      try simp only [kc0, kc1, kc2, kc3, kc4, kc5, kc6, kc7, kc8, kc9, kc10, kc11, kc12, kc13, kc14, kc15, kc16, kc17, kc18, kc19, kc20, kc21, kc22, kc23, kc24, kc25, kc26, kc27, kc28, kc29, kc30, kc31, kc32, kc33]
      refine hX _ ?_; conv => whnf
      have e9 : h1 115 9 = (q : Int) := by rw [f2 9 (by omega) (by omega)]; exact hq
      have hR := hR (bg_up h1 115 9 (h1 115 9 + 1)) (fun k a1 a2 a3 a4 a5 a6 a7 a8 => by rw [bg_up_ne a1]; exact f1 k a1 a2 a3 a4 a5 a6 a7 a8) (fun j j1 j2 j3 => by rw [bg_up_nj j1]; exact f2 j j2 j3) (by rw [bg_up_self, e9]) (by rw [bg_up_nj (by omega)]; exact f3) (by rw [bg_up_nj (by omega)]; exact f4) (by rw [bg_up_ne (by omega)]; exact f5) (by rw [bg_up_ne (by omega)]; exact f6) (by rw [bg_up_ne (by omega)]; exact f7) (by rw [bg_up_ne (by omega)]; exact f8) (by rw [bg_up_ne (by omega)]; exact f9) (by rw [bg_up_ne (by omega)]; exact f10) (by rw [bg_up_ne (by omega)]; exact f11)
      rw [show (q : Int) + 1 = bg_up h1 115 9 (h1 115 9 + 1) 115 9 by rw [bg_up_self, e9]] at hR
      exact hR
    · exfalso
      (try simp (disch := omega) only [bg_w_id, Int.toNat_natCast, rw_land, sh_land, not_true_eq_false, hq, kc0, kc1, kc2, kc3, kc4, kc5, kc6, kc7, kc8, kc9, kc10, kc11, kc12, kc13, kc14, kc15, kc16, kc17, kc18, kc19, kc20, kc21, kc22, kc23, kc24, kc25, kc26, kc27, kc28, kc29, kc30, kc31, kc32, kc33] at q5) <;> (omega)
theorem s_mback (d n q : Nat) (h : bg_G) (hq : h 115 9 = q) (hq2 : q ≤ 2) (Rt : bg_R) (hR2 : q = 0 → Rt (some (.inl (-2))) (bg_SH n, h)) (hR : 1 ≤ q → ∀ h' : bg_G, (∀ k, k ≠ 115 → k ≠ 117 → k ≠ 118 → k ≠ 119 → k ≠ 120 → k ≠ 121 → k ≠ 122 → k ≠ 123 → h' k = h k) → (∀ j, j ≠ 9 → j ≠ 12 → j ≠ 14 → h' 115 j = h 115 j) → h' 115 9 = (q : Int) - 1 → h' 115 12 = 0 → h' 115 14 = 0 → h' 117 = cp 1 q 0 1 (h 117) → h' 118 = cp 84 q 0 84 (h 118) → h' 119 = cp 1 q 0 1 (h 119) → h' 120 = cp 9 q 0 9 (h 120) → h' 121 = cp 3 q 0 3 (h 121) → h' 122 = cp 4 q 0 4 (h 122) → h' 123 = cp 4 q 0 4 (h 123) → Rt (some (.inl ((q : Int) - 1))) (bg_SH n, h')) : bg_Ca bg_MS (d + 3) 185 [vR 115] (bg_SH n, h) Rt := by
  refine bg_ca (cd := cd_X9_back) rfl rfl ?_
  intro X hX
  by_cases c : q = 0
  · iterate 2 (refine hX _ ?_; conv => whnf)
    try simp only [kc0, kc1, kc2, kc3, kc4, kc5, kc6, kc7, kc8, kc9, kc10, kc11, kc12, kc13, kc14, kc15, kc16, kc17, kc18, kc19, kc20, kc21, kc22, kc23, kc24, kc25, kc26, kc27, kc28, kc29, kc30, kc31, kc32, kc33]
    refine hX _ ?_; conv => whnf
    refine ⟨fun q4 => ?_, fun q4 => ?_⟩
    · exfalso
      (try simp (disch := omega) only [bg_w_id, Int.toNat_natCast, rw_land, sh_land, not_true_eq_false, hq, kc0, kc1, kc2, kc3, kc4, kc5, kc6, kc7, kc8, kc9, kc10, kc11, kc12, kc13, kc14, kc15, kc16, kc17, kc18, kc19, kc20, kc21, kc22, kc23, kc24, kc25, kc26, kc27, kc28, kc29, kc30, kc31, kc32, kc33] at q4) <;> (omega)
    · try simp (disch := omega) only [bg_w_id, Int.toNat_natCast, rw_land, sh_land, not_true_eq_false, hq, kc0, kc1, kc2, kc3, kc4, kc5, kc6, kc7, kc8, kc9, kc10, kc11, kc12, kc13, kc14, kc15, kc16, kc17, kc18, kc19, kc20, kc21, kc22, kc23, kc24, kc25, kc26, kc27, kc28, kc29, kc30, kc31, kc32, kc33] at q4
      refine hX _ ?_; conv => whnf
      refine hX _ ?_; conv => whnf
      exact hR2 c
  · have hR := hR (by omega)
    obtain ⟨hb, ehb⟩ : ∃ hb : bg_G, hb = bg_up h 115 9 ((q : Int) - 1) := ⟨_, rfl⟩
    have u1 : ∀ k, k ≠ 115 → hb k = h k := fun k hk => by rw [ehb]; exact bg_up_ne hk
    have u2 : ∀ j, j ≠ 9 → hb 115 j = h 115 j := fun j hj => by rw [ehb]; exact bg_up_nj hj
    have u3 : hb 115 9 = (q : Int) - 1 := by rw [ehb]; exact bg_up_self _ _ _ _
    have e : (1 : Int) + ((q : Int) - 1) = ((q : Nat) : Int) := by omega
    have nx : X (20, [oR 115], [], (bg_SH n, hb), (0, 0)) := by
      iterate 6 (refine hX _ ?_; conv => whnf)
      try simp only [kc0, kc1, kc2, kc3, kc4, kc5, kc6, kc7, kc8, kc9, kc10, kc11, kc12, kc13, kc14, kc15, kc16, kc17, kc18, kc19, kc20, kc21, kc22, kc23, kc24, kc25, kc26, kc27, kc28, kc29, kc30, kc31, kc32, kc33]
      refine hX _ ?_; conv => whnf
      try simp (disch := omega) only [bg_w_id, Int.toNat_natCast, rw_land, sh_land, not_true_eq_false]
      rw [u3, e]
      refine s_mcopy d n q 0 (by omega) (by omega) (by omega) hb _ (fun h1 f1 f2 f3 f4 f5 f6 f7 f8 f9 f10 f11 => ?_)
      conv => whnf
      iterate 2 (refine hX _ ?_; conv => whnf)
      try simp only [kc0, kc1, kc2, kc3, kc4, kc5, kc6, kc7, kc8, kc9, kc10, kc11, kc12, kc13, kc14, kc15, kc16, kc17, kc18, kc19, kc20, kc21, kc22, kc23, kc24, kc25, kc26, kc27, kc28, kc29, kc30, kc31, kc32, kc33]
      refine hX _ ?_; conv => whnf
      have e9 : h1 115 9 = (q : Int) - 1 := by rw [f2 9 (by omega) (by omega)]; exact u3
      have hR := hR h1 (fun k a1 a2 a3 a4 a5 a6 a7 a8 => by rw [f1 k a1 a2 a3 a4 a5 a6 a7 a8]; exact u1 k a1) (fun j j1 j2 j3 => by rw [f2 j j2 j3]; exact u2 j j1) e9 f3 f4 (by rw [f5, u1 117 (by omega)]) (by rw [f6, u1 118 (by omega)]) (by rw [f7, u1 119 (by omega)]) (by rw [f8, u1 120 (by omega)]) (by rw [f9, u1 121 (by omega)]) (by rw [f10, u1 122 (by omega)]) (by rw [f11, u1 123 (by omega)])
      rw [← e9] at hR
      exact hR
    iterate 2 (refine hX _ ?_; conv => whnf)
    try simp only [kc0, kc1, kc2, kc3, kc4, kc5, kc6, kc7, kc8, kc9, kc10, kc11, kc12, kc13, kc14, kc15, kc16, kc17, kc18, kc19, kc20, kc21, kc22, kc23, kc24, kc25, kc26, kc27, kc28, kc29, kc30, kc31, kc32, kc33]
    refine hX _ ?_; conv => whnf
    refine ⟨fun q4 => ?_, fun q4 => ?_⟩
    · try simp (disch := omega) only [bg_w_id, Int.toNat_natCast, rw_land, sh_land, not_true_eq_false, hq, kc0, kc1, kc2, kc3, kc4, kc5, kc6, kc7, kc8, kc9, kc10, kc11, kc12, kc13, kc14, kc15, kc16, kc17, kc18, kc19, kc20, kc21, kc22, kc23, kc24, kc25, kc26, kc27, kc28, kc29, kc30, kc31, kc32, kc33] at q4
      iterate 6 (refine hX _ ?_; conv => whnf)
      try simp only [kc0, kc1, kc2, kc3, kc4, kc5, kc6, kc7, kc8, kc9, kc10, kc11, kc12, kc13, kc14, kc15, kc16, kc17, kc18, kc19, kc20, kc21, kc22, kc23, kc24, kc25, kc26, kc27, kc28, kc29, kc30, kc31, kc32, kc33]
      rw [hq, ← ehb]
      exact nx
    · exfalso
      (try simp (disch := omega) only [bg_w_id, Int.toNat_natCast, rw_land, sh_land, not_true_eq_false, hq, kc0, kc1, kc2, kc3, kc4, kc5, kc6, kc7, kc8, kc9, kc10, kc11, kc12, kc13, kc14, kc15, kc16, kc17, kc18, kc19, kc20, kc21, kc22, kc23, kc24, kc25, kc26, kc27, kc28, kc29, kc30, kc31, kc32, kc33] at q4) <;> (omega)
theorem op_keep (n : Nat) (h : bg_G) (hI : INV h) : OPI n 2 105 [vR 2] 3 184 [vR 115] h := by
  intro d Rt k
  have rel := inv_REL hI
  have hn := rel.2.1.1.1
  obtain ⟨⟨D, hD, hc, hm, hl⟩, ⟨q, k1, k2, k3, k4, k5⟩, ⟨r0, r1, r2, r3⟩, tx, rw', cs, lm⟩ := id hI
  refine s_ckeep d n q h k2 k1 Rt (fun c => k _ _ (fun d2 R2 w => ?_)) (fun c h1 f1 f2 f3 f4 => k _ _ (fun d2 R2 w => ?_))
  · exact s_mkeep d2 n q h k3 k1 R2 (fun _ => w h hI) (fun x => absurd x (by omega))
  · have e1 : ∀ k, 115 ≤ k → h1 k = h k := fun k hk => f1 k (by omega) (by omega) (by omega) (by omega)
    refine s_mkeep d2 n q h1 (by rw [e1 115 (by omega)]; exact k3) k1 R2 (fun x => absurd x (by omega)) (fun _ h2 g1 g2 g3 g4 g5 g6 g7 g8 g9 g10 g11 g12 => w h2 ?_)
    rw [e1 117 (by omega)] at g6
    rw [e1 118 (by omega)] at g7
    rw [e1 119 (by omega)] at g8
    rw [e1 120 (by omega)] at g9
    rw [e1 121 (by omega)] at g10
    rw [e1 122 (by omega)] at g11
    rw [e1 123 (by omega)] at g12
    have eL : ∀ k, k < 115 → h2 k = h1 k := fun k hk => g1 k (by omega) (by omega) (by omega) (by omega) (by omega) (by omega) (by omega) (by omega)
    have eS : ∀ k, k < 77 → k ≠ 2 → h2 k = h k := fun k hk hk2 => by rw [eL k (by omega), f1 k (by omega) (by omega) (by omega) (by omega)]
    have a : ag0 h h2 := by
      refine ⟨?_, ?_, fun j j0 j1 => ?_, fun j j0 j1 => ?_, fun j j0 j1 => ?_⟩
      · rw [g6, cp_out (c := 0) (by omega) (by omega) (by omega) (by omega)]
      · rw [g8, cp_out (c := 0) (by omega) (by omega) (by omega) (by omega)]
      · rw [g7, cp_out (c := 0) (by omega) (by omega) (by omega) (by omega)]
      · rw [g9, cp_out (c := 0) (by omega) (by omega) (by omega) (by omega)]
      · rw [g10, cp_out (c := 0) (by omega) (by omega) (by omega) (by omega)]
    have lotn : LOT h2 (1 + q) (94 + 19 * q) (95 + 19 * q) D := fun k hk => by
      have l := hl k hk
      rw [show (4 : Int) * ((0 : Nat) : Int) + (k : Int) = k by omega] at l
      rw [eL (94 + 19 * q) (by omega), eL (95 + 19 * q) (by omega), (f4 k hk).1, (f4 k hk).2, g11, g12, show (4 : Int) * ((1 + q : Nat) : Int) + (k : Int) = ((4 * (1 + q) : Nat) : Int) + k by omega, cp_in (by omega) (by omega), cp_in (by omega) (by omega), show ((4 * 0 : Nat) : Int) + (k : Int) = k by omega]
      exact l
    have bkn : BK h2 (77 + 19 * q) (94 + 19 * q) (95 + 19 * q) (1 + q) D := ⟨hD, holdC_fr (f3 D hc) (fun k a b => eL k (by omega)), holdM_cp hD g6 g7 g8 g9 g10 hm, lotn⟩
    have e114 : ∀ j, j ≠ 9 → j ≠ 12 → j ≠ 14 → h2 115 j = h 115 j := fun j a b c => by rw [g2 j a b c, e1 115 (by omega)]
    refine ⟨⟨D, hD, holdC_fr hc (fun k a b => eS k (by omega) (by omega)), ag_holdM a hD hm, fun k hk => ?_⟩, ⟨q + 1, by omega, by rw [eL 2 (by omega), f2]; omega, by rw [g3]; omega, fun _ => ?_, fun x => ?_⟩, ?_, TXT_fr (by rw [eS 3 (by omega) (by omega)]) (e114 0 (by omega) (by omega) (by omega)) (eS 4 (by omega) (by omega)) (by rw [g1 116 (by omega) (by omega) (by omega) (by omega) (by omega) (by omega) (by omega) (by omega), e1 116 (by omega)]) tx, ROW_fr (eS 73 (by omega) (by omega)) (by rw [g1 124 (by omega) (by omega) (by omega) (by omega) (by omega) (by omega) (by omega) (by omega), e1 124 (by omega)]) (eS 74 (by omega) (by omega)) (by rw [g1 125 (by omega) (by omega) (by omega) (by omega) (by omega) (by omega) (by omega) (by omega), e1 125 (by omega)]) rw', ⟨⟨sv_fr (fun k a b c => eS k (by omega) (by omega)) rel.1.1.1.2 cs.1.1, ?_⟩, ⟨ag_PL a hn.2 (fun k a b => eS k (by omega) (by omega)) cs.2.1.1, ag_PP a rel.2.1 (by rw [eS 46 (by omega) (by omega)]) (by rw [eS 46 (by omega) (by omega)]) cs.2.1.2⟩, Or.inl g4, Or.inl g5⟩, fun i hi => by rw [eS 1 (by omega) (by omega)]; exact lm i hi⟩
    · have l := hl k hk
      rw [show (4 : Int) * ((0 : Nat) : Int) + (k : Int) = k by omega] at l ⊢
      rw [eS 54 (by omega) (by omega), eS 55 (by omega) (by omega), g11, g12, cp_out (c := 0) (by omega) (by omega) (by omega) (by omega), cp_out (c := 0) (by omega) (by omega) (by omega) (by omega)]
      exact l
    · by_cases c0 : q = 0
      · subst c0
        exact ⟨D, bkn⟩
      · obtain ⟨D1, hb⟩ := k4 (by omega)
        have c1 : q = 1 := by omega
        subst c1
        refine ⟨D1, hb.1, holdC_fr hb.2.1 (fun k a b => by rw [eL k (by omega), f1 k (by omega) (by omega) (by omega) (by omega)]), holdM_co (by omega) hb.1 g6 g7 g8 g9 g10 hb.2.2.1, fun k hk => ?_⟩
        have l := hb.2.2.2 k hk
        rw [eL 94 (by omega), eL 95 (by omega), f1 94 (by omega) (by omega) (by omega) (by omega), f1 95 (by omega) (by omega) (by omega) (by omega), g11, g12, cp_out (c := 1) (by omega) (by omega) (by omega) (by omega), cp_out (c := 1) (by omega) (by omega) (by omega) (by omega)]
        exact l
    · have c1 : q = 1 := by omega
      subst c1
      exact ⟨D, bkn⟩
    · by_cases c0 : q = 0
      · subst c0
        exact ⟨rgB_co (by omega) g7 g9 r0, rgB_cp g7 g9 r0, rgB_co (by omega) g7 g9 r2, rgB_co (by omega) g7 g9 r3⟩
      · have c1 : q = 1 := by omega
        subst c1
        exact ⟨rgB_co (by omega) g7 g9 r0, rgB_co (by omega) g7 g9 r1, rgB_cp g7 g9 r0, rgB_co (by omega) g7 g9 r3⟩
    · rw [ag_ws a hn.2]
      exact tbC_fr (eS 41 (by omega) (by omega)) (eS 42 (by omega) (by omega)) (eS 43 (by omega) (by omega)) (eS 44 (by omega) (by omega)) (fun k a b => eS k (by omega) (by omega)) cs.1.2
theorem s_cback (d n q : Nat) (h : bg_G) (hq : h 2 13 = ((q + 1 : Nat) : Int)) (hq2 : q + 1 ≤ 2) (D : LD) (hD : okD D) (hk : holdC h (77 + 19 * q) D) (Rt : bg_R) (hR : ∀ h' : bg_G, (∀ k, k ≠ 2 → ¬ (22 ≤ k ∧ k ≤ 37) → k ≠ 39 → k ≠ 41 → k ≠ 42 → k ≠ 43 → ¬ (44 ≤ k ∧ k ≤ 45) → k ≠ 46 → k ≠ 54 → k ≠ 55 → h' k = h k) → h' 2 13 = (q : Int) → holdC h' 22 D → (∀ k : Nat, k < 4 → h' 54 k = h (94 + 19 * q) k ∧ h' 55 k = h (95 + 19 * q) k) → svC h' → tbC h' (wsC h') → h' 46 7 = 0 → h' 46 9 = 0 → Rt (some (.inl (q : Int))) (bg_SH n, h')) : bg_Ca bg_MS (d + 13) 106 [vR 2] (bg_SH n, h) Rt := by
  obtain ⟨hb, ehb⟩ : ∃ hb : bg_G, hb = bg_up h 2 13 (q : Int) := ⟨_, rfl⟩
  have u1 : ∀ k, k ≠ 2 → hb k = h k := fun k hk => by rw [ehb]; exact bg_up_ne hk
  have u3 : hb 2 13 = (q : Int) := by rw [ehb]; exact bg_up_self _ _ _ _
  refine bg_ca (cd := cd_X8_back) rfl rfl ?_
  intro X hX
  have fin : ∀ h2 : bg_G, (∀ k, k ≠ 2 → ¬ (22 ≤ k ∧ k ≤ 37) → k ≠ 54 → k ≠ 55 → h2 k = h k) → h2 2 13 = (q : Int) → holdC h2 22 D → (∀ k : Nat, k < 4 → h2 54 k = h (94 + 19 * q) k ∧ h2 55 k = h (95 + 19 * q) k) → X (52, [oR 2], [], (bg_SH n, h2), (0, 0)) := by
    intro h2 f1 f2 f3 f4
    refine hX _ ?_; conv => whnf
    refine hX _ ?_; conv => whnf
    try simp (disch := omega) only [bg_w_id, Int.toNat_natCast, rw_land, sh_land, not_true_eq_false]
    refine s_survey d n h2 (okC_of hD f3) _ (fun h3 v1 v2 v3 v4 v5 => ?_)
    conv => whnf
    iterate 2 (refine hX _ ?_; conv => whnf)
    try simp only [kc0, kc1, kc2, kc3, kc4, kc5, kc6, kc7, kc8, kc9, kc10, kc11, kc12, kc13, kc14, kc15, kc16, kc17, kc18, kc19, kc20, kc21, kc22, kc23, kc24, kc25, kc26, kc27, kc28, kc29, kc30, kc31, kc32, kc33]
    refine hX _ ?_; conv => whnf
    have e13 : h3 2 13 = (q : Int) := by rw [v1 2 (by omega) (by omega) (by omega) (by omega) (by omega) (by omega)]; exact f2
    have hR := hR h3 (fun k a1 a2 a3 a4 a5 a6 a7 a8 a9 a10 => by rw [v1 k a3 a4 a5 a6 a7 a8]; exact f1 k a1 a2 a9 a10) e13 (holdC_fr f3 (fun k a b => v1 k (by omega) (by omega) (by omega) (by omega) (by omega) (by omega))) (fun k hk => by rw [v1 54 (by omega) (by omega) (by omega) (by omega) (by omega) (by omega), v1 55 (by omega) (by omega) (by omega) (by omega) (by omega) (by omega)]; exact f4 k hk) v2 v3 v4 v5
    rw [← e13] at hR
    exact hR
  have gt : ∀ (P : Prop), X (20, [oR 2], [], (bg_SH n, hb), (0, 0)) → X (0, [oR 2], [], (bg_SH n, h), (0, 0)) := by
    intro P hx
    iterate 2 (refine hX _ ?_; conv => whnf)
    try simp only [kc0, kc1, kc2, kc3, kc4, kc5, kc6, kc7, kc8, kc9, kc10, kc11, kc12, kc13, kc14, kc15, kc16, kc17, kc18, kc19, kc20, kc21, kc22, kc23, kc24, kc25, kc26, kc27, kc28, kc29, kc30, kc31, kc32, kc33]
    refine hX _ ?_; conv => whnf
    refine ⟨fun q4 => ?_, fun q4 => ?_⟩
    · try simp (disch := omega) only [bg_w_id, Int.toNat_natCast, rw_land, sh_land, not_true_eq_false, hq, kc0, kc1, kc2, kc3, kc4, kc5, kc6, kc7, kc8, kc9, kc10, kc11, kc12, kc13, kc14, kc15, kc16, kc17, kc18, kc19, kc20, kc21, kc22, kc23, kc24, kc25, kc26, kc27, kc28, kc29, kc30, kc31, kc32, kc33] at q4
      iterate 6 (refine hX _ ?_; conv => whnf)
      try simp only [kc0, kc1, kc2, kc3, kc4, kc5, kc6, kc7, kc8, kc9, kc10, kc11, kc12, kc13, kc14, kc15, kc16, kc17, kc18, kc19, kc20, kc21, kc22, kc23, kc24, kc25, kc26, kc27, kc28, kc29, kc30, kc31, kc32, kc33]
      rw [hq, show ((q + 1 : Nat) : Int) - 1 = q by omega, ← ehb]
      exact hx
    · exfalso
      (try simp (disch := omega) only [bg_w_id, Int.toNat_natCast, rw_land, sh_land, not_true_eq_false, hq, kc0, kc1, kc2, kc3, kc4, kc5, kc6, kc7, kc8, kc9, kc10, kc11, kc12, kc13, kc14, kc15, kc16, kc17, kc18, kc19, kc20, kc21, kc22, kc23, kc24, kc25, kc26, kc27, kc28, kc29, kc30, kc31, kc32, kc33] at q4) <;> (omega)
  refine gt True ?_
  by_cases c0 : q = 0
  · subst c0
    have u4 : hb 2 13 = 0 := u3
    have nx : ∀ h1 : bg_G, frO 22 hb h1 → (∀ D, holdC hb 77 D → holdC h1 22 D) → X (36, [oR 2], [], (bg_SH n, h1), (0, 0)) := by
      intro h1 f1 f2
      have u5 : h1 2 13 = 0 := by rw [f1 2 (by omega)]; exact u3
      iterate 6 (refine hX _ ?_; conv => whnf)
      refine hX _ ?_; conv => whnf
      try (simp (disch := omega) only [bg_w_id, Int.toNat_natCast, rw_land, sh_land, not_true_eq_false, u5, kc0, kc1, kc2, kc3, kc4, kc5, kc6, kc7, kc8, kc9, kc10, kc11, kc12, kc13, kc14, kc15, kc16, kc17, kc18, kc19, kc20, kc21, kc22, kc23, kc24, kc25, kc26, kc27, kc28, kc29, kc30, kc31, kc32, kc33]; try conv => whnf)
      refine ⟨by first | omega | (simp (disch := omega) only [bg_w_id, Int.toNat_natCast, rw_land, sh_land, not_true_eq_false, u5, kc0, kc1, kc2, kc3, kc4, kc5, kc6, kc7, kc8, kc9, kc10, kc11, kc12, kc13, kc14, kc15, kc16, kc17, kc18, kc19, kc20, kc21, kc22, kc23, kc24, kc25, kc26, kc27, kc28, kc29, kc30, kc31, kc32, kc33]; omega), ?_⟩
      try (simp (disch := omega) only [bg_w_id, Int.toNat_natCast, rw_land, sh_land, not_true_eq_false, u5, kc0, kc1, kc2, kc3, kc4, kc5, kc6, kc7, kc8, kc9, kc10, kc11, kc12, kc13, kc14, kc15, kc16, kc17, kc18, kc19, kc20, kc21, kc22, kc23, kc24, kc25, kc26, kc27, kc28, kc29, kc30, kc31, kc32, kc33])
      try conv => whnf
      try simp only [kc0, kc1, kc2, kc3, kc4, kc5, kc6, kc7, kc8, kc9, kc10, kc11, kc12, kc13, kc14, kc15, kc16, kc17, kc18, kc19, kc20, kc21, kc22, kc23, kc24, kc25, kc26, kc27, kc28, kc29, kc30, kc31, kc32, kc33]
      refine hX _ ?_; conv => whnf
      try simp (disch := omega) only [bg_w_id, Int.toNat_natCast, rw_land, sh_land, not_true_eq_false, u5]
      refine s_tcopy (d + 11) 53 93 (bg_SH n) ⟨rfl, rfl, rfl⟩ ⟨rfl, rfl, rfl⟩ (by omega) h1 _ (fun h2 g1 g2 => ?_)
      conv => whnf
      refine fin h2 (fun k a1 a2 a3 a4 => by rw [g1 k (by omega) (by omega), f1 k (by omega), u1 k a1]) (by rw [g1 2 (by omega) (by omega)]; exact u5) (holdC_fr (f2 D (holdC_fr hk (fun k a b => u1 k (by omega)))) (fun k a b => g1 k (by omega) (by omega))) (fun k hk => ⟨(g2 k hk).1.trans (by rw [f1 _ (by omega), u1 _ (by omega)]), (g2 k hk).2.trans (by rw [f1 _ (by omega), u1 _ (by omega)])⟩)
    iterate 6 (refine hX _ ?_; conv => whnf)
    refine hX _ ?_; conv => whnf
    try (simp (disch := omega) only [bg_w_id, Int.toNat_natCast, rw_land, sh_land, not_true_eq_false, u4, kc0, kc1, kc2, kc3, kc4, kc5, kc6, kc7, kc8, kc9, kc10, kc11, kc12, kc13, kc14, kc15, kc16, kc17, kc18, kc19, kc20, kc21, kc22, kc23, kc24, kc25, kc26, kc27, kc28, kc29, kc30, kc31, kc32, kc33]; try conv => whnf)
    refine ⟨by first | omega | (simp (disch := omega) only [bg_w_id, Int.toNat_natCast, rw_land, sh_land, not_true_eq_false, u4, kc0, kc1, kc2, kc3, kc4, kc5, kc6, kc7, kc8, kc9, kc10, kc11, kc12, kc13, kc14, kc15, kc16, kc17, kc18, kc19, kc20, kc21, kc22, kc23, kc24, kc25, kc26, kc27, kc28, kc29, kc30, kc31, kc32, kc33]; omega), ?_⟩
    try (simp (disch := omega) only [bg_w_id, Int.toNat_natCast, rw_land, sh_land, not_true_eq_false, u4, kc0, kc1, kc2, kc3, kc4, kc5, kc6, kc7, kc8, kc9, kc10, kc11, kc12, kc13, kc14, kc15, kc16, kc17, kc18, kc19, kc20, kc21, kc22, kc23, kc24, kc25, kc26, kc27, kc28, kc29, kc30, kc31, kc32, kc33])
    try conv => whnf
    try simp only [kc0, kc1, kc2, kc3, kc4, kc5, kc6, kc7, kc8, kc9, kc10, kc11, kc12, kc13, kc14, kc15, kc16, kc17, kc18, kc19, kc20, kc21, kc22, kc23, kc24, kc25, kc26, kc27, kc28, kc29, kc30, kc31, kc32, kc33]
    refine hX _ ?_; conv => whnf
    try simp (disch := omega) only [bg_w_id, Int.toNat_natCast, rw_land, sh_land, not_true_eq_false, u4]
    refine s_lcopy (d + 11) 22 77 (bg_SH n) (lnd_22 n) (lnd_76 n) (by omega) hb _ (fun h1 f1 f2 => ?_)
    conv => whnf
    exact nx h1 f1 f2
  · have c1 : q = 1 := by omega
    subst c1
    have u4 : hb 2 13 = 1 := u3
    have nx : ∀ h1 : bg_G, frO 22 hb h1 → (∀ D, holdC hb 96 D → holdC h1 22 D) → X (36, [oR 2], [], (bg_SH n, h1), (0, 0)) := by
      intro h1 f1 f2
      have u5 : h1 2 13 = 1 := by rw [f1 2 (by omega)]; exact u3
      iterate 6 (refine hX _ ?_; conv => whnf)
      refine hX _ ?_; conv => whnf
      try (simp (disch := omega) only [bg_w_id, Int.toNat_natCast, rw_land, sh_land, not_true_eq_false, u5, kc0, kc1, kc2, kc3, kc4, kc5, kc6, kc7, kc8, kc9, kc10, kc11, kc12, kc13, kc14, kc15, kc16, kc17, kc18, kc19, kc20, kc21, kc22, kc23, kc24, kc25, kc26, kc27, kc28, kc29, kc30, kc31, kc32, kc33]; try conv => whnf)
      refine ⟨by first | omega | (simp (disch := omega) only [bg_w_id, Int.toNat_natCast, rw_land, sh_land, not_true_eq_false, u5, kc0, kc1, kc2, kc3, kc4, kc5, kc6, kc7, kc8, kc9, kc10, kc11, kc12, kc13, kc14, kc15, kc16, kc17, kc18, kc19, kc20, kc21, kc22, kc23, kc24, kc25, kc26, kc27, kc28, kc29, kc30, kc31, kc32, kc33]; omega), ?_⟩
      try (simp (disch := omega) only [bg_w_id, Int.toNat_natCast, rw_land, sh_land, not_true_eq_false, u5, kc0, kc1, kc2, kc3, kc4, kc5, kc6, kc7, kc8, kc9, kc10, kc11, kc12, kc13, kc14, kc15, kc16, kc17, kc18, kc19, kc20, kc21, kc22, kc23, kc24, kc25, kc26, kc27, kc28, kc29, kc30, kc31, kc32, kc33])
      try conv => whnf
      try simp only [kc0, kc1, kc2, kc3, kc4, kc5, kc6, kc7, kc8, kc9, kc10, kc11, kc12, kc13, kc14, kc15, kc16, kc17, kc18, kc19, kc20, kc21, kc22, kc23, kc24, kc25, kc26, kc27, kc28, kc29, kc30, kc31, kc32, kc33]
      refine hX _ ?_; conv => whnf
      try simp (disch := omega) only [bg_w_id, Int.toNat_natCast, rw_land, sh_land, not_true_eq_false, u5]
      refine s_tcopy (d + 11) 53 112 (bg_SH n) ⟨rfl, rfl, rfl⟩ ⟨rfl, rfl, rfl⟩ (by omega) h1 _ (fun h2 g1 g2 => ?_)
      conv => whnf
      refine fin h2 (fun k a1 a2 a3 a4 => by rw [g1 k (by omega) (by omega), f1 k (by omega), u1 k a1]) (by rw [g1 2 (by omega) (by omega)]; exact u5) (holdC_fr (f2 D (holdC_fr hk (fun k a b => u1 k (by omega)))) (fun k a b => g1 k (by omega) (by omega))) (fun k hk => ⟨(g2 k hk).1.trans (by rw [f1 _ (by omega), u1 _ (by omega)]), (g2 k hk).2.trans (by rw [f1 _ (by omega), u1 _ (by omega)])⟩)
    iterate 6 (refine hX _ ?_; conv => whnf)
    refine hX _ ?_; conv => whnf
    try (simp (disch := omega) only [bg_w_id, Int.toNat_natCast, rw_land, sh_land, not_true_eq_false, u4, kc0, kc1, kc2, kc3, kc4, kc5, kc6, kc7, kc8, kc9, kc10, kc11, kc12, kc13, kc14, kc15, kc16, kc17, kc18, kc19, kc20, kc21, kc22, kc23, kc24, kc25, kc26, kc27, kc28, kc29, kc30, kc31, kc32, kc33]; try conv => whnf)
    refine ⟨by first | omega | (simp (disch := omega) only [bg_w_id, Int.toNat_natCast, rw_land, sh_land, not_true_eq_false, u4, kc0, kc1, kc2, kc3, kc4, kc5, kc6, kc7, kc8, kc9, kc10, kc11, kc12, kc13, kc14, kc15, kc16, kc17, kc18, kc19, kc20, kc21, kc22, kc23, kc24, kc25, kc26, kc27, kc28, kc29, kc30, kc31, kc32, kc33]; omega), ?_⟩
    try (simp (disch := omega) only [bg_w_id, Int.toNat_natCast, rw_land, sh_land, not_true_eq_false, u4, kc0, kc1, kc2, kc3, kc4, kc5, kc6, kc7, kc8, kc9, kc10, kc11, kc12, kc13, kc14, kc15, kc16, kc17, kc18, kc19, kc20, kc21, kc22, kc23, kc24, kc25, kc26, kc27, kc28, kc29, kc30, kc31, kc32, kc33])
    try conv => whnf
    try simp only [kc0, kc1, kc2, kc3, kc4, kc5, kc6, kc7, kc8, kc9, kc10, kc11, kc12, kc13, kc14, kc15, kc16, kc17, kc18, kc19, kc20, kc21, kc22, kc23, kc24, kc25, kc26, kc27, kc28, kc29, kc30, kc31, kc32, kc33]
    refine hX _ ?_; conv => whnf
    try simp (disch := omega) only [bg_w_id, Int.toNat_natCast, rw_land, sh_land, not_true_eq_false, u4]
    refine s_lcopy (d + 11) 22 96 (bg_SH n) (lnd_22 n) (lnd_95 n) (by omega) hb _ (fun h1 f1 f2 => ?_)
    conv => whnf
    exact nx h1 f1 f2
theorem s_cback0 (d n : Nat) (h : bg_G) (hq : h 2 13 = 0) (Rt : bg_R) (hR : Rt (some (.inl (-2))) (bg_SH n, h)) : bg_Ca bg_MS (d + 1) 106 [vR 2] (bg_SH n, h) Rt := by
  refine bg_ca (cd := cd_X8_back) rfl rfl ?_
  intro X hX
  iterate 2 (refine hX _ ?_; conv => whnf)
  try simp only [kc0, kc1, kc2, kc3, kc4, kc5, kc6, kc7, kc8, kc9, kc10, kc11, kc12, kc13, kc14, kc15, kc16, kc17, kc18, kc19, kc20, kc21, kc22, kc23, kc24, kc25, kc26, kc27, kc28, kc29, kc30, kc31, kc32, kc33]
  refine hX _ ?_; conv => whnf
  refine ⟨fun q4 => ?_, fun q4 => ?_⟩
  · exfalso
    (try simp (disch := omega) only [bg_w_id, Int.toNat_natCast, rw_land, sh_land, not_true_eq_false, hq, kc0, kc1, kc2, kc3, kc4, kc5, kc6, kc7, kc8, kc9, kc10, kc11, kc12, kc13, kc14, kc15, kc16, kc17, kc18, kc19, kc20, kc21, kc22, kc23, kc24, kc25, kc26, kc27, kc28, kc29, kc30, kc31, kc32, kc33] at q4) <;> (omega)
  · try simp (disch := omega) only [bg_w_id, Int.toNat_natCast, rw_land, sh_land, not_true_eq_false, hq, kc0, kc1, kc2, kc3, kc4, kc5, kc6, kc7, kc8, kc9, kc10, kc11, kc12, kc13, kc14, kc15, kc16, kc17, kc18, kc19, kc20, kc21, kc22, kc23, kc24, kc25, kc26, kc27, kc28, kc29, kc30, kc31, kc32, kc33] at q4
    refine hX _ ?_; conv => whnf
    refine hX _ ?_; conv => whnf
    exact hR
theorem op_back (n : Nat) (h : bg_G) (hI : INV h) : OPI n 13 106 [vR 2] 3 185 [vR 115] h := by
  intro d Rt k
  obtain ⟨⟨D, hD, hc, hm, hl⟩, ⟨q, k1, k2, k3, k4, k5⟩, ⟨r0, r1, r2, r3⟩, tx, rw', cs, lm⟩ := id hI
  cases q with
  | zero =>
    refine s_cback0 (d + 12) n h k2 Rt (k _ _ (fun d2 R2 w => ?_))
    exact s_mback d2 n 0 h k3 k1 R2 (fun _ => w h hI) (fun x => absurd x (by omega))
  | succ q =>
    obtain ⟨D1, hb⟩ : ∃ D1, BK h (77 + 19 * q) (94 + 19 * q) (95 + 19 * q) (q + 1) D1 := by
      by_cases c0 : q = 0
      · subst c0; exact k4 (by omega)
      · have c1 : q = 1 := by omega
        subst c1; exact k5 (by omega)
    refine s_cback d n q h k2 k1 D1 hb.1 hb.2.1 Rt (fun h1 f1 f2 f3 f4 f5 f6 f7 f8 => k _ _ (fun d2 R2 w => ?_))
    have e1 : ∀ k, 56 ≤ k → h1 k = h k := fun k hk => f1 k (by omega) (by omega) (by omega) (by omega) (by omega) (by omega) (by omega) (by omega) (by omega) (by omega)
    have e1' : ∀ k, k ≤ 4 → k ≠ 2 → h1 k = h k := fun k hk h2 => f1 k h2 (by omega) (by omega) (by omega) (by omega) (by omega) (by omega) (by omega) (by omega) (by omega)
    refine s_mback d2 n (q + 1) h1 (by rw [e1 115 (by omega)]; exact k3) k1 R2 (fun x => absurd x (by omega)) (fun _ h2 g1 g2 g3 g4 g5 g6 g7 g8 g9 g10 g11 g12 => ?_)
    rw [show ((q + 1 : Nat) : Int) - 1 = q by omega]
    refine w h2 ?_
    rw [e1 117 (by omega)] at g6
    rw [e1 118 (by omega)] at g7
    rw [e1 119 (by omega)] at g8
    rw [e1 120 (by omega)] at g9
    rw [e1 121 (by omega)] at g10
    rw [e1 122 (by omega)] at g11
    rw [e1 123 (by omega)] at g12
    have eL : ∀ k, k < 115 → h2 k = h1 k := fun k hk => g1 k (by omega) (by omega) (by omega) (by omega) (by omega) (by omega) (by omega) (by omega)
    have e114 : ∀ j, j ≠ 9 → j ≠ 12 → j ≠ 14 → h2 115 j = h 115 j := fun j a b c => by rw [g2 j a b c, e1 115 (by omega)]
    have hcF : holdC h2 22 D1 := holdC_fr f3 (fun k a b => eL k (by omega))
    have hmF : holdM h2 0 D1 := holdM_cp hb.1 g6 g7 g8 g9 g10 hb.2.2.1
    have n22 : h1 22 3 ≤ 12 := by have := f3.1.1; have := hb.1.1.1; omega
    have rg : rgB h (q + 1) := by
      by_cases c0 : q = 0
      · subst c0; exact r1
      · have c1 : q = 1 := by omega
        subst c1; exact r2
    refine ⟨⟨D1, hb.1, hcF, hmF, fun k hk => ?_⟩, ⟨q, by omega, by rw [eL 2 (by omega), f2], by rw [g3]; omega, fun x => ?_, fun x => absurd x (by omega)⟩, ⟨rgB_cp g7 g9 rg, rgB_co (by omega) g7 g9 r1, rgB_co (by omega) g7 g9 r2, rgB_co (by omega) g7 g9 r3⟩, TXT_fr (by rw [eL 3 (by omega), e1' 3 (by omega) (by omega)]) (e114 0 (by omega) (by omega) (by omega)) (by rw [eL 4 (by omega), e1' 4 (by omega) (by omega)]) (by rw [g1 116 (by omega) (by omega) (by omega) (by omega) (by omega) (by omega) (by omega) (by omega), e1 116 (by omega)]) tx, ROW_fr (by rw [eL 73 (by omega), e1 73 (by omega)]) (by rw [g1 124 (by omega) (by omega) (by omega) (by omega) (by omega) (by omega) (by omega) (by omega), e1 124 (by omega)]) (by rw [eL 74 (by omega), e1 74 (by omega)]) (by rw [g1 125 (by omega) (by omega) (by omega) (by omega) (by omega) (by omega) (by omega) (by omega), e1 125 (by omega)]) rw', CSH_new hb.1 hcF hmF (sv_fr (fun k a b c => eL k (by omega)) n22 f5) ?_ (by rw [eL 46 (by omega)]; exact f7) (by rw [eL 46 (by omega)]; exact f8) g4 g5, fun i hi => by rw [eL 1 (by omega), e1' 1 (by omega) (by omega)]; exact lm i hi⟩
    · have l := hb.2.2.2 k hk
      rw [show (4 : Int) * ((q + 1 : Nat) : Int) + (k : Int) = ((4 * (q + 1) : Nat) : Int) + k by omega] at l
      rw [eL 54 (by omega), eL 55 (by omega), (f4 k hk).1, (f4 k hk).2, g11, g12, show (4 : Int) * ((0 : Nat) : Int) + (k : Int) = ((4 * 0 : Nat) : Int) + k by omega, cp_in (by omega) (by omega), cp_in (by omega) (by omega)]
      exact l
    · have c1 : q = 1 := by omega
      subst c1
      obtain ⟨D2, hb2⟩ := k4 (by omega)
      refine ⟨D2, hb2.1, holdC_fr hb2.2.1 (fun k a b => by rw [eL k (by omega), e1 k (by omega)]), holdM_co (by omega) hb2.1 g6 g7 g8 g9 g10 hb2.2.2.1, fun k hk => ?_⟩
      have l := hb2.2.2.2 k hk
      rw [eL 94 (by omega), eL 95 (by omega), e1 94 (by omega), e1 95 (by omega), g11, g12, cp_out (c := 1) (by omega) (by omega) (by omega) (by omega), cp_out (c := 1) (by omega) (by omega) (by omega) (by omega)]
      exact l
    · rw [wsC_fr (fun k a b => eL k (by omega)) n22]
      exact tbC_fr (eL 41 (by omega)) (eL 42 (by omega)) (eL 43 (by omega)) (eL 44 (by omega)) (fun k a b => eL k (by omega)) f6
