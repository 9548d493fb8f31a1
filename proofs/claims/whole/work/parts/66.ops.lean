theorem CSH_new {h : bg_G} {D : LD} (hD : okD D) (hc : holdC h 22 D) (hm : holdM h 0 D) (sv : svC h) (tb : tbC h (wsC h)) (e7 : h 46 7 = 0) (e9 : h 46 9 = 0) (e12 : h 115 12 = 0) (e14 : h 115 14 = 0) : CSH h := ⟨⟨sv, by rw [ws_D hm, ← ws_C hD hc]; exact tb⟩, ⟨Or.inl e7, Or.inl e9⟩, Or.inl e12, Or.inl e14⟩
theorem wsC_fr {h h' : bg_G} (e : ∀ k, 22 ≤ k → k ≤ 35 → h' k = h k) (hn : h 22 3 ≤ 12) : wsC h' = wsC h := by
  unfold wsC wsG
  rw [e 22 (by omega) (by omega), wf_congr (fun p hp => by rw [e (24 + p) (by omega) (by omega)]) (fun p hp => by rw [e (24 + p) (by omega) (by omega)])]
theorem op_lay (n : Nat) (h : bg_G) (hI : INV h) : OPI n 13 81 [vR 2] 6 127 [vR 115] h := by
  intro d Rt k
  obtain ⟨L, tc, tm⟩ := inv_tx hI
  have rf := readF_rg (T := h 116) (L := L) 400 0 D0 okD_0
  refine s_clay d n L (h 116) h tc hI.2.2.2.2.2.2 Rt (fun c h1 f => k _ _ (fun d2 R2 q => ?_)) (fun c h1 f1 f2 f3 f4 f5 f6 f7 f8 f9 => k _ _ (fun d2 R2 q => ?_))
  · have e := frR_21 f
    exact s_mlay d2 n L (h 116) h1 ⟨by rw [e 115 (by omega)]; exact tm.1, tm.2.1, fun i hi => by rw [e 116 (by omega)]; exact tm.2.2 i hi⟩ (rgB_fr hI.2.2.1.2.2.2 (e _ (by omega)) (e _ (by omega))) R2 (fun _ h2 g g3 => q h2 (INV_R hI f g g3)) (fun c2 => absurd c2 c)
  · obtain ⟨D, hDe⟩ : ∃ D, D = (readF (byt (h 116) L) L 400 0 D0).2 := ⟨_, rfl⟩
    have hD : okD D := by rw [hDe]; exact rf.1
    have e1 : ∀ k, 75 ≤ k → h1 k = h k := fun k hk => f1 k (by omega) (by omega) (by omega) (by omega) (by omega) (by omega) (by omega) (by omega) (by omega) (by omega) (by omega) (by omega) (by omega)
    have e1' : ∀ k, k ≤ 4 → k ≠ 3 → h1 k = h k := fun k hk h3 => f1 k h3 (by omega) (by omega) (by omega) (by omega) (by omega) (by omega) (by omega) (by omega) (by omega) (by omega) (by omega) (by omega)
    refine s_mlay d2 n L (h 116) h1 ⟨by rw [e1 115 (by omega)]; exact tm.1, tm.2.1, fun i hi => by rw [e1 116 (by omega)]; exact tm.2.2 i hi⟩ (rgB_fr hI.2.2.1.2.2.2 (e1 _ (by omega)) (e1 _ (by omega))) R2 (fun c2 => absurd c c2) (fun _ h2 h3 g1 g2 g3 m1 m2 m3 m4 m5 m6 m7 m8 m9 m10 m11 m12 m13 => ?_)
    rw [← hDe] at g3 f3 q
    have hm : holdM h3 0 D := holdM_cp hD m5 m6 m7 m8 m9 g3
    have eM : ∀ k, k ≠ 115 → k ≠ 117 → k ≠ 118 → k ≠ 119 → k ≠ 120 → k ≠ 121 → k ≠ 122 → k ≠ 123 → k ≠ 124 → k ≠ 125 → k ≠ 129 → h3 k = h1 k := fun k a1 a2 a3 a4 a5 a6 a7 a8 a9 a10 a11 => by rw [m1 k a1 a2 a3 a4 a5 a6 a7 a8 a9 a10, g1.1 k a1 a2 a3 a4 a5 a6 a11]
    have eL : ∀ k, k < 115 → h3 k = h1 k := fun k hk => eM k (by omega) (by omega) (by omega) (by omega) (by omega) (by omega) (by omega) (by omega) (by omega) (by omega) (by omega)
    have e2 : ∀ k, 122 ≤ k → k ≠ 129 → h2 k = h k := fun k hk h8 => by rw [g1.1 k (by omega) (by omega) (by omega) (by omega) (by omega) (by omega) (by omega), e1 k (by omega)]
    have f012 : b012 h h2 := ⟨fun j hj => by rw [g1.2.2.1 j hj, e1 117 (by omega)], fun j hj => by rw [g1.2.2.2.1 j hj, e1 119 (by omega)], fun j hj => by rw [g1.2.2.2.2.1 j hj, e1 118 (by omega)], fun j hj => by rw [g1.2.2.2.2.2.1 j hj, e1 120 (by omega)], fun j hj => by rw [g1.2.2.2.2.2.2 j hj, e1 121 (by omega)]⟩
    have hcF : holdC h3 22 D := holdC_fr f3 (fun k a b => eL k (by omega))
    have e114 : ∀ j, j ≠ 12 → j ≠ 14 → j ≠ 18 → h3 115 j = h 115 j := fun j a b c => by rw [m2 j a b, g1.2.1 j c, e1 115 (by omega)]
    have n22 : h1 22 3 ≤ 12 := by have := f3.1.1; have := hD.1.1; omega
    have kk : ∀ (B o g c : Nat) (D1 : LD), 1 ≤ B → B ≤ 2 → 77 ≤ o → o + 15 ≤ 114 → 77 ≤ g → g ≤ 114 → 77 ≤ c → c ≤ 114 → BK h o g c B D1 → BK h3 o g c B D1 := by
      intro B o g c D1 B1 B2 o1 o2 x1 x2 x3 x4 hb
      refine ⟨hb.1, holdC_fr hb.2.1 (fun k a b => by rw [eL k (by omega), e1 k (by omega)]), holdM_co (by omega) hb.1 m5 m6 m7 m8 m9 (hM_012 f012 B2 hb.1 hb.2.2.1), fun k hk => ?_⟩
      rw [eL g (by omega), e1 g (by omega), eL c (by omega), e1 c (by omega), m10, m11, if_neg (by omega), if_neg (by omega), e2 122 (by omega) (by omega), e2 123 (by omega) (by omega)]
      exact hb.2.2.2 k hk
    obtain ⟨qk, k1, k2, k3, k4, k5⟩ := hI.2.1
    obtain ⟨r0, r1, r2, r3⟩ := hI.2.2.1
    have hIF : INV h3 := by
      refine ⟨⟨D, hD, hcF, hm, fun k hk => ?_⟩, ⟨qk, k1, ?_, ?_, fun x => ?_, fun x => ?_⟩, ⟨rgB_cp m6 m8 g2, rgB_co (by omega) m6 m8 (rg_012 f012 (by omega) r1), rgB_co (by omega) m6 m8 (rg_012 f012 (by omega) r2), rgB_co (by omega) m6 m8 g2⟩, ?_, ⟨fun p hp => ?_, fun g hg => ?_⟩, CSH_new hD hcF hm (sv_fr (fun k a b c => eL k (by omega)) n22 f6) ?_ (by rw [eL 46 (by omega)]; exact f8) (by rw [eL 46 (by omega)]; exact f9) m3 m4, fun i hi => by rw [eL 1 (by omega), e1' 1 (by omega) (by omega)]; exact hI.2.2.2.2.2.2 i hi⟩
      · rw [eL 54 (by omega), eL 55 (by omega), (f4 k hk).1, (f4 k hk).2.1, m10, m11, if_pos (by omega), if_pos (by omega)]
        exact ⟨⟨rfl, rfl⟩, Or.inl rfl, by omega, by omega⟩
      · rw [eL 2 (by omega), e1' 2 (by omega) (by omega)]; exact k2
      · rw [e114 9 (by omega) (by omega) (by omega)]; exact k3
      · obtain ⟨D1, h1'⟩ := k4 x
        exact ⟨D1, kk 1 77 94 95 D1 (by omega) (by omega) (by omega) (by omega) (by omega) (by omega) (by omega) (by omega) h1'⟩
      · obtain ⟨D1, h1'⟩ := k5 x
        exact ⟨D1, kk 2 96 113 114 D1 (by omega) (by omega) (by omega) (by omega) (by omega) (by omega) (by omega) (by omega) h1'⟩
      · exact TXT_fr (by rw [eL 3 (by omega), f2 3 (by omega)]) (e114 0 (by omega) (by omega) (by omega)) (by rw [eL 4 (by omega), e1' 4 (by omega) (by omega)]) (by rw [eM 116 (by omega) (by omega) (by omega) (by omega) (by omega) (by omega) (by omega) (by omega) (by omega) (by omega) (by omega), e1 116 (by omega)]) hI.2.2.2.1
      · rw [eL 73 (by omega), f5 p hp, m12, if_pos (by omega)]
        exact ⟨rfl, by omega, by omega⟩
      · rw [eL 74 (by omega), (f4 g hg).2.2, m13, if_pos (by omega)]
        exact ⟨rfl, by omega, by omega⟩
      · rw [wsC_fr (fun k a b => eL k (by omega)) n22]
        exact tbC_fr (eL 41 (by omega)) (eL 42 (by omega)) (eL 43 (by omega)) (eL 44 (by omega)) (fun k a b => eL k (by omega)) f7
    have e0 : h3 117 0 = (D.1.length : Nat) := hm.1.1
    rw [e0]
    exact q h3 hIF
theorem s_ckeep (d n q : Nat) (h : bg_G) (hq : h 2 13 = q) (hq2 : q ≤ 2) (Rt : bg_R) (hR2 : q = 2 → Rt (some (.inl (-3))) (bg_SH n, h)) (hR : q < 2 → ∀ h' : bg_G, (∀ k, k ≠ 2 → ¬ (77 + 19 * q ≤ k ∧ k ≤ 92 + 19 * q) → k ≠ 94 + 19 * q → k ≠ 95 + 19 * q → h' k = h k) → h' 2 13 = (q : Int) + 1 → (∀ D, holdC h 22 D → holdC h' (77 + 19 * q) D) → (∀ k : Nat, k < 4 → h' (94 + 19 * q) k = h 54 k ∧ h' (95 + 19 * q) k = h 55 k) → Rt (some (.inl ((q : Int) + 1))) (bg_SH n, h')) : bg_Ca bg_MS (d + 2) 105 [vR 2] (bg_SH n, h) Rt := by
  refine bg_ca (cd := cd_X8_keep) rfl rfl ?_
  intro X hX
  by_cases c0 : q = 0
  · subst c0
    have hR := hR (by omega)
    have hq0 : h 2 13 = 0 := hq
    have nx : ∀ h1 : bg_G, frO 77 h h1 → (∀ D, holdC h 22 D → holdC h1 77 D) → X (27, [oR 2], [], (bg_SH n, h1), (0, 0)) := by
      intro h1 f1 f2
      have hq1 : h1 2 13 = 0 := by rw [f1 2 (by omega)]; exact hq
      iterate 4 (refine hX _ ?_; conv => whnf)
      refine hX _ ?_; conv => whnf
      try (simp (disch := omega) only [bg_w_id, Int.toNat_natCast, rw_land, sh_land, not_true_eq_false, hq1, kc0, kc1, kc2, kc3, kc4, kc5, kc6, kc7, kc8, kc9, kc10, kc11, kc12, kc13, kc14, kc15, kc16, kc17, kc18, kc19, kc20, kc21, kc22, kc23, kc24, kc25, kc26, kc27, kc28, kc29, kc30, kc31, kc32, kc33]; try conv => whnf)
      refine ⟨by first | omega | (simp (disch := omega) only [bg_w_id, Int.toNat_natCast, rw_land, sh_land, not_true_eq_false, hq1, kc0, kc1, kc2, kc3, kc4, kc5, kc6, kc7, kc8, kc9, kc10, kc11, kc12, kc13, kc14, kc15, kc16, kc17, kc18, kc19, kc20, kc21, kc22, kc23, kc24, kc25, kc26, kc27, kc28, kc29, kc30, kc31, kc32, kc33]; omega), ?_⟩
      try (simp (disch := omega) only [bg_w_id, Int.toNat_natCast, rw_land, sh_land, not_true_eq_false, hq1, kc0, kc1, kc2, kc3, kc4, kc5, kc6, kc7, kc8, kc9, kc10, kc11, kc12, kc13, kc14, kc15, kc16, kc17, kc18, kc19, kc20, kc21, kc22, kc23, kc24, kc25, kc26, kc27, kc28, kc29, kc30, kc31, kc32, kc33])
      try conv => whnf
      iterate 2 (refine hX _ ?_; conv => whnf)
      try simp only [kc0, kc1, kc2, kc3, kc4, kc5, kc6, kc7, kc8, kc9, kc10, kc11, kc12, kc13, kc14, kc15, kc16, kc17, kc18, kc19, kc20, kc21, kc22, kc23, kc24, kc25, kc26, kc27, kc28, kc29, kc30, kc31, kc32, kc33]
      refine hX _ ?_; conv => whnf
      try simp (disch := omega) only [bg_w_id, Int.toNat_natCast, rw_land, sh_land, not_true_eq_false, hq1]
      refine s_tcopy d 93 53 (bg_SH n) ⟨rfl, rfl, rfl⟩ ⟨rfl, rfl, rfl⟩ (by omega) h1 _ (fun h2 g1 g2 => ?_)
      conv => whnf
      iterate 8 (refine hX _ ?_; conv => whnf)
      try simp only [kc0, kc1, kc2, kc3, kc4, kc5, kc6, kc7, kc8, kc9, kc10, kc11, kc12, kc13, kc14, kc15, kc16, kc17, kc18, kc19, kc20, kc21, kc22, kc23, kc24, kc25, kc26, kc27, kc28, kc29, kc30, kc31, kc32, kc33]
      refine hX _ ?_; conv => whnf
      have e13 : h2 2 13 = 0 := by rw [g1 2 (by omega) (by omega)]; exact hq1
      have hR := hR (bg_up h2 2 13 (h2 2 13 + 1)) (fun k a1 a2 a3 a4 => by rw [bg_up_ne a1, g1 k (by omega) (by omega), f1 k (by omega)]) (by rw [bg_up_self, e13]; rfl) (fun D hD => holdC_fr (f2 D hD) (fun k a b => by rw [bg_up_ne (by omega), g1 k (by omega) (by omega)])) (fun k hk => ⟨by rw [bg_up_ne (by omega)]; exact (g2 k hk).1.trans (by rw [f1 54 (by omega)]), by rw [bg_up_ne (by omega)]; exact (g2 k hk).2.trans (by rw [f1 55 (by omega)])⟩)
      rw [show ((0 : Nat) : Int) + 1 = bg_up h2 2 13 (h2 2 13 + 1) 2 13 by rw [bg_up_self, e13]; rfl] at hR
      exact hR
    iterate 3 (refine hX _ ?_; conv => whnf)
    try simp only [kc0, kc1, kc2, kc3, kc4, kc5, kc6, kc7, kc8, kc9, kc10, kc11, kc12, kc13, kc14, kc15, kc16, kc17, kc18, kc19, kc20, kc21, kc22, kc23, kc24, kc25, kc26, kc27, kc28, kc29, kc30, kc31, kc32, kc33]
    refine hX _ ?_; conv => whnf
    refine ⟨fun q5 => ?_, fun q5 => ?_⟩
    · try simp (disch := omega) only [bg_w_id, Int.toNat_natCast, rw_land, sh_land, not_true_eq_false, hq0, kc0, kc1, kc2, kc3, kc4, kc5, kc6, kc7, kc8, kc9, kc10, kc11, kc12, kc13, kc14, kc15, kc16, kc17, kc18, kc19, kc20, kc21, kc22, kc23, kc24, kc25, kc26, kc27, kc28, kc29, kc30, kc31, kc32, kc33] at q5
      iterate 4 (refine hX _ ?_; conv => whnf)
      refine hX _ ?_; conv => whnf
      try (simp (disch := omega) only [bg_w_id, Int.toNat_natCast, rw_land, sh_land, not_true_eq_false, hq0, kc0, kc1, kc2, kc3, kc4, kc5, kc6, kc7, kc8, kc9, kc10, kc11, kc12, kc13, kc14, kc15, kc16, kc17, kc18, kc19, kc20, kc21, kc22, kc23, kc24, kc25, kc26, kc27, kc28, kc29, kc30, kc31, kc32, kc33]; try conv => whnf)
      refine ⟨by first | omega | (simp (disch := omega) only [bg_w_id, Int.toNat_natCast, rw_land, sh_land, not_true_eq_false, hq0, kc0, kc1, kc2, kc3, kc4, kc5, kc6, kc7, kc8, kc9, kc10, kc11, kc12, kc13, kc14, kc15, kc16, kc17, kc18, kc19, kc20, kc21, kc22, kc23, kc24, kc25, kc26, kc27, kc28, kc29, kc30, kc31, kc32, kc33]; omega), ?_⟩
      try (simp (disch := omega) only [bg_w_id, Int.toNat_natCast, rw_land, sh_land, not_true_eq_false, hq0, kc0, kc1, kc2, kc3, kc4, kc5, kc6, kc7, kc8, kc9, kc10, kc11, kc12, kc13, kc14, kc15, kc16, kc17, kc18, kc19, kc20, kc21, kc22, kc23, kc24, kc25, kc26, kc27, kc28, kc29, kc30, kc31, kc32, kc33])
      try conv => whnf
      iterate 2 (refine hX _ ?_; conv => whnf)
      try simp only [kc0, kc1, kc2, kc3, kc4, kc5, kc6, kc7, kc8, kc9, kc10, kc11, kc12, kc13, kc14, kc15, kc16, kc17, kc18, kc19, kc20, kc21, kc22, kc23, kc24, kc25, kc26, kc27, kc28, kc29, kc30, kc31, kc32, kc33]
      refine hX _ ?_; conv => whnf
      try simp (disch := omega) only [bg_w_id, Int.toNat_natCast, rw_land, sh_land, not_true_eq_false, hq0]
      refine s_lcopy d 77 22 (bg_SH n) (lnd_76 n) (lnd_22 n) (by omega) h _ (fun h1 f1 f2 => ?_)
      conv => whnf
      exact nx h1 f1 f2
    · exfalso
      (try simp (disch := omega) only [bg_w_id, Int.toNat_natCast, rw_land, sh_land, not_true_eq_false, hq0, kc0, kc1, kc2, kc3, kc4, kc5, kc6, kc7, kc8, kc9, kc10, kc11, kc12, kc13, kc14, kc15, kc16, kc17, kc18, kc19, kc20, kc21, kc22, kc23, kc24, kc25, kc26, kc27, kc28, kc29, kc30, kc31, kc32, kc33] at q5) <;> (omega)
  · by_cases c1 : q = 1
    · subst c1
      have hR := hR (by omega)
      have hq0 : h 2 13 = 1 := hq
      have nx : ∀ h1 : bg_G, frO 96 h h1 → (∀ D, holdC h 22 D → holdC h1 96 D) → X (27, [oR 2], [], (bg_SH n, h1), (0, 0)) := by
        intro h1 f1 f2
        have hq1 : h1 2 13 = 1 := by rw [f1 2 (by omega)]; exact hq
        iterate 4 (refine hX _ ?_; conv => whnf)
        refine hX _ ?_; conv => whnf
        try (simp (disch := omega) only [bg_w_id, Int.toNat_natCast, rw_land, sh_land, not_true_eq_false, hq1, kc0, kc1, kc2, kc3, kc4, kc5, kc6, kc7, kc8, kc9, kc10, kc11, kc12, kc13, kc14, kc15, kc16, kc17, kc18, kc19, kc20, kc21, kc22, kc23, kc24, kc25, kc26, kc27, kc28, kc29, kc30, kc31, kc32, kc33]; try conv => whnf)
        refine ⟨by first | omega | (simp (disch := omega) only [bg_w_id, Int.toNat_natCast, rw_land, sh_land, not_true_eq_false, hq1, kc0, kc1, kc2, kc3, kc4, kc5, kc6, kc7, kc8, kc9, kc10, kc11, kc12, kc13, kc14, kc15, kc16, kc17, kc18, kc19, kc20, kc21, kc22, kc23, kc24, kc25, kc26, kc27, kc28, kc29, kc30, kc31, kc32, kc33]; omega), ?_⟩
        try (simp (disch := omega) only [bg_w_id, Int.toNat_natCast, rw_land, sh_land, not_true_eq_false, hq1, kc0, kc1, kc2, kc3, kc4, kc5, kc6, kc7, kc8, kc9, kc10, kc11, kc12, kc13, kc14, kc15, kc16, kc17, kc18, kc19, kc20, kc21, kc22, kc23, kc24, kc25, kc26, kc27, kc28, kc29, kc30, kc31, kc32, kc33])
        try conv => whnf
        iterate 2 (refine hX _ ?_; conv => whnf)
        try simp only [kc0, kc1, kc2, kc3, kc4, kc5, kc6, kc7, kc8, kc9, kc10, kc11, kc12, kc13, kc14, kc15, kc16, kc17, kc18, kc19, kc20, kc21, kc22, kc23, kc24, kc25, kc26, kc27, kc28, kc29, kc30, kc31, kc32, kc33]
        refine hX _ ?_; conv => whnf
        try simp (disch := omega) only [bg_w_id, Int.toNat_natCast, rw_land, sh_land, not_true_eq_false, hq1]
        refine s_tcopy d 112 53 (bg_SH n) ⟨rfl, rfl, rfl⟩ ⟨rfl, rfl, rfl⟩ (by omega) h1 _ (fun h2 g1 g2 => ?_)
        conv => whnf
        iterate 8 (refine hX _ ?_; conv => whnf)
        try simp only [kc0, kc1, kc2, kc3, kc4, kc5, kc6, kc7, kc8, kc9, kc10, kc11, kc12, kc13, kc14, kc15, kc16, kc17, kc18, kc19, kc20, kc21, kc22, kc23, kc24, kc25, kc26, kc27, kc28, kc29, kc30, kc31, kc32, kc33]
        refine hX _ ?_; conv => whnf
        have e13 : h2 2 13 = 1 := by rw [g1 2 (by omega) (by omega)]; exact hq1
        have hR := hR (bg_up h2 2 13 (h2 2 13 + 1)) (fun k a1 a2 a3 a4 => by rw [bg_up_ne a1, g1 k (by omega) (by omega), f1 k (by omega)]) (by rw [bg_up_self, e13]; rfl) (fun D hD => holdC_fr (f2 D hD) (fun k a b => by rw [bg_up_ne (by omega), g1 k (by omega) (by omega)])) (fun k hk => ⟨by rw [bg_up_ne (by omega)]; exact (g2 k hk).1.trans (by rw [f1 54 (by omega)]), by rw [bg_up_ne (by omega)]; exact (g2 k hk).2.trans (by rw [f1 55 (by omega)])⟩)
        rw [show ((1 : Nat) : Int) + 1 = bg_up h2 2 13 (h2 2 13 + 1) 2 13 by rw [bg_up_self, e13]; rfl] at hR
        exact hR
      iterate 3 (refine hX _ ?_; conv => whnf)
      try simp only [kc0, kc1, kc2, kc3, kc4, kc5, kc6, kc7, kc8, kc9, kc10, kc11, kc12, kc13, kc14, kc15, kc16, kc17, kc18, kc19, kc20, kc21, kc22, kc23, kc24, kc25, kc26, kc27, kc28, kc29, kc30, kc31, kc32, kc33]
      refine hX _ ?_; conv => whnf
      refine ⟨fun q5 => ?_, fun q5 => ?_⟩
      · try simp (disch := omega) only [bg_w_id, Int.toNat_natCast, rw_land, sh_land, not_true_eq_false, hq0, kc0, kc1, kc2, kc3, kc4, kc5, kc6, kc7, kc8, kc9, kc10, kc11, kc12, kc13, kc14, kc15, kc16, kc17, kc18, kc19, kc20, kc21, kc22, kc23, kc24, kc25, kc26, kc27, kc28, kc29, kc30, kc31, kc32, kc33] at q5
        iterate 4 (refine hX _ ?_; conv => whnf)
        refine hX _ ?_; conv => whnf
        try (simp (disch := omega) only [bg_w_id, Int.toNat_natCast, rw_land, sh_land, not_true_eq_false, hq0, kc0, kc1, kc2, kc3, kc4, kc5, kc6, kc7, kc8, kc9, kc10, kc11, kc12, kc13, kc14, kc15, kc16, kc17, kc18, kc19, kc20, kc21, kc22, kc23, kc24, kc25, kc26, kc27, kc28, kc29, kc30, kc31, kc32, kc33]; try conv => whnf)
        refine ⟨by first | omega | (simp (disch := omega) only [bg_w_id, Int.toNat_natCast, rw_land, sh_land, not_true_eq_false, hq0, kc0, kc1, kc2, kc3, kc4, kc5, kc6, kc7, kc8, kc9, kc10, kc11, kc12, kc13, kc14, kc15, kc16, kc17, kc18, kc19, kc20, kc21, kc22, kc23, kc24, kc25, kc26, kc27, kc28, kc29, kc30, kc31, kc32, kc33]; omega), ?_⟩
        try (simp (disch := omega) only [bg_w_id, Int.toNat_natCast, rw_land, sh_land, not_true_eq_false, hq0, kc0, kc1, kc2, kc3, kc4, kc5, kc6, kc7, kc8, kc9, kc10, kc11, kc12, kc13, kc14, kc15, kc16, kc17, kc18, kc19, kc20, kc21, kc22, kc23, kc24, kc25, kc26, kc27, kc28, kc29, kc30, kc31, kc32, kc33])
        try conv => whnf
        iterate 2 (refine hX _ ?_; conv => whnf)
        try simp only [kc0, kc1, kc2, kc3, kc4, kc5, kc6, kc7, kc8, kc9, kc10, kc11, kc12, kc13, kc14, kc15, kc16, kc17, kc18, kc19, kc20, kc21, kc22, kc23, kc24, kc25, kc26, kc27, kc28, kc29, kc30, kc31, kc32, kc33]
        refine hX _ ?_; conv => whnf
        try simp (disch := omega) only [bg_w_id, Int.toNat_natCast, rw_land, sh_land, not_true_eq_false, hq0]
        refine s_lcopy d 96 22 (bg_SH n) (lnd_95 n) (lnd_22 n) (by omega) h _ (fun h1 f1 f2 => ?_)
        conv => whnf
        exact nx h1 f1 f2
      · exfalso
        (try simp (disch := omega) only [bg_w_id, Int.toNat_natCast, rw_land, sh_land, not_true_eq_false, hq0, kc0, kc1, kc2, kc3, kc4, kc5, kc6, kc7, kc8, kc9, kc10, kc11, kc12, kc13, kc14, kc15, kc16, kc17, kc18, kc19, kc20, kc21, kc22, kc23, kc24, kc25, kc26, kc27, kc28, kc29, kc30, kc31, kc32, kc33] at q5) <;> (omega)
    · iterate 3 (refine hX _ ?_; conv => whnf)
      try simp only [kc0, kc1, kc2, kc3, kc4, kc5, kc6, kc7, kc8, kc9, kc10, kc11, kc12, kc13, kc14, kc15, kc16, kc17, kc18, kc19, kc20, kc21, kc22, kc23, kc24, kc25, kc26, kc27, kc28, kc29, kc30, kc31, kc32, kc33]
      refine hX _ ?_; conv => whnf
      refine ⟨fun q5 => ?_, fun q5 => ?_⟩
      · exfalso
        (try simp (disch := omega) only [bg_w_id, Int.toNat_natCast, rw_land, sh_land, not_true_eq_false, hq, kc0, kc1, kc2, kc3, kc4, kc5, kc6, kc7, kc8, kc9, kc10, kc11, kc12, kc13, kc14, kc15, kc16, kc17, kc18, kc19, kc20, kc21, kc22, kc23, kc24, kc25, kc26, kc27, kc28, kc29, kc30, kc31, kc32, kc33] at q5) <;> (omega)
      · try simp (disch := omega) only [bg_w_id, Int.toNat_natCast, rw_land, sh_land, not_true_eq_false, hq, kc0, kc1, kc2, kc3, kc4, kc5, kc6, kc7, kc8, kc9, kc10, kc11, kc12, kc13, kc14, kc15, kc16, kc17, kc18, kc19, kc20, kc21, kc22, kc23, kc24, kc25, kc26, kc27, kc28, kc29, kc30, kc31, kc32, kc33] at q5
        refine hX _ ?_; conv => whnf
        refine hX _ ?_; conv => whnf
        exact hR2 (by omega)
