theorem s_mtowerItem (d n a L : Nat) (ha : a ≤ 401) (T : Int → Int) (D : LD) (hD1 : D.1.length ≤ 12) (hD2 : D.2.1.length ≤ 3) (h : bg_G) (ht : txM h T L) (h18 : h 115 18 = a) (hh : holdM h 3 D) (hg : rgB h 3) (Rt : bg_R) (hR1 : ∀ (l : List Int) (e : Nat), nums (byt T L) 3 a = some (l, e) → ((gl l 0 < D.1.length ∧ gl l 1 < D.1.length ∧ gl l 0 ≠ gl l 1 ∧ gl l 2 ≤ 20) ∧ D.2.1.length < 3) → ∀ h' : bg_G, frI h h' → h' 115 18 = e → holdM h' 3 (D.1, D.2.1 ++ [l], D.2.2) → rgB h' 3 → Rt (some (.inl 1)) (bg_SH n, h')) (hR0 : (∀ (l : List Int) (e : Nat), nums (byt T L) 3 a = some (l, e) → ¬ ((gl l 0 < D.1.length ∧ gl l 1 < D.1.length ∧ gl l 0 ≠ gl l 1 ∧ gl l 2 ≤ 20) ∧ D.2.1.length < 3)) → ∀ h' : bg_G, frI h h' → rgB h' 3 → Rt (some (.inl 0)) (bg_SH n, h')) : bg_Ca bg_MS (d + 3) 122 [vR 115] (bg_SH n, h) Rt := by
  obtain ⟨c, hc⟩ : ∃ c : Nat, c = D.1.length := ⟨_, rfl⟩
  obtain ⟨t, htt⟩ : ∃ t : Nat, t = D.2.1.length := ⟨_, rfl⟩
  obtain ⟨⟨a1, a2, a3, a4, a5⟩, b1, b2⟩ := id hh
  have a1' : h 117 3 = (c : Int) := by rw [hc]; exact a1
  have a2' : h 119 3 = (t : Int) := by rw [htt]; exact a2
  rw [← hc, ← htt] at hR1 hR0
  rw [← hc] at hD1
  rw [← htt] at hD2 b2
  refine bg_ca (cd := cd_X9_towerItem) rfl rfl ?_
  intro X hX
  cases hn : nums (byt T L) 3 a with
  | none =>
    iterate 2 (refine hX _ ?_; conv => whnf)
    refine hX _ ?_; conv => whnf
    try simp (disch := omega) only [bg_w_id, Int.toNat_natCast, rw_land, sh_land, not_true_eq_false]
    refine s_mfigures (d + 0) n 3 a L (by omega) ha T h ht h18 _ (fun l e q => absurd (hn.symm.trans q) (by simp)) (fun _ h' f1 => ?_)
    conv => whnf
    refine hX _ ?_; conv => whnf
    refine ⟨fun q5 => ?_, fun q5 => ?_⟩
    · try simp (disch := omega) only [bg_w_id, Int.toNat_natCast, rw_land, sh_land, not_true_eq_false, kc0, kc1, kc2, kc3, kc4, kc5, kc6, kc7, kc8, kc9, kc10, kc11, kc12, kc13, kc14, kc15, kc16, kc17, kc18, kc19, kc20, kc21, kc22, kc23, kc24, kc25, kc26, kc27, kc28, kc29, kc30, kc31, kc32, kc33] at q5
      refine hX _ ?_; conv => whnf
      refine hX _ ?_; conv => whnf
      exact ⟨by omega, hR0 (fun l e q => absurd (hn.symm.trans q) (by simp)) h' (frF_I f1) (rgB_fr hg (f1.1 118 (by omega) (by omega)) (f1.1 120 (by omega) (by omega)))⟩
    · exfalso
      (try simp (disch := omega) only [bg_w_id, Int.toNat_natCast, rw_land, sh_land, not_true_eq_false, kc0, kc1, kc2, kc3, kc4, kc5, kc6, kc7, kc8, kc9, kc10, kc11, kc12, kc13, kc14, kc15, kc16, kc17, kc18, kc19, kc20, kc21, kc22, kc23, kc24, kc25, kc26, kc27, kc28, kc29, kc30, kc31, kc32, kc33] at q5) <;> (omega)
  | some pr =>
    obtain ⟨l, e⟩ := pr
    have nr := nums_rg _ _ l e hn
    have gg := gl_rg nr.2.2.2.2
    have gg0 := gg 0
    have gg1 := gg 1
    have gg2 := gg 2
    have go : ∀ h1 : bg_G, frF h h1 → h1 115 18 = (e : Int) → (∀ i : Nat, i < 3 → h1 129 i = gl l i) → X (8, [oR 115, none], [], (bg_SH n, h1), (0, 0)) := by
      intro h1 f1 f2 f3
      have e116 : h1 117 3 = (c : Int) := by rw [f1.1 117 (by omega) (by omega)]; exact a1'
      have e118 : h1 119 3 = (t : Int) := by rw [f1.1 119 (by omega) (by omega)]; exact a2'
      have e0 : h1 129 0 = gl l 0 := f3 0 (by omega)
      have e1 : h1 129 1 = gl l 1 := f3 1 (by omega)
      have e2 : h1 129 2 = gl l 2 := f3 2 (by omega)
      by_cases c1 : (gl l 0 < (c : Int) ∧ gl l 1 < (c : Int) ∧ gl l 0 ≠ gl l 1 ∧ gl l 2 ≤ 20) ∧ t < 3
      · obtain ⟨⟨k0, k1, k01, k2⟩, k3⟩ := id c1
        have l1 : ∀ i : Nat, i ≤ 3 → ∀ h2 : bg_G, (∀ k, k ≠ 120 → h2 k = h1 k) → (∀ j, ¬ (27 + 3 * (t : Int) ≤ j ∧ j < 27 + 3 * (t : Int) + i) → h2 120 j = h1 120 j) → (∀ j : Nat, j < i → h2 120 (27 + 3 * (t : Int) + j) = gl l j) → X (78, [oR 115, oI (i : Int)], [], (bg_SH n, h2), (0, 0)) := by
          refine lp_up 3 _ ?_ (fun i hi ih => ?_)
          · intro h2 g1 g2 g3
            have e118' : h2 119 3 = (t : Int) := by rw [g1 119 (by omega)]; exact e118
            iterate 2 (refine hX _ ?_; conv => whnf)
            refine hX _ ?_; conv => whnf
            refine ⟨fun q80 => ?_, fun q80 => ?_⟩
            · try simp (disch := omega) only [bg_w_id, Int.toNat_natCast, rw_land, sh_land, not_true_eq_false, e118', kc0, kc1, kc2, kc3, kc4, kc5, kc6, kc7, kc8, kc9, kc10, kc11, kc12, kc13, kc14, kc15, kc16, kc17, kc18, kc19, kc20, kc21, kc22, kc23, kc24, kc25, kc26, kc27, kc28, kc29, kc30, kc31, kc32, kc33] at q80
              iterate 4 (refine hX _ ?_; conv => whnf)
              refine hX _ ?_; conv => whnf
              try (simp (disch := omega) only [bg_w_id, Int.toNat_natCast, rw_land, sh_land, not_true_eq_false, e118']; try conv => whnf)
              refine ⟨by first | omega | (simp (disch := omega) only [bg_w_id, Int.toNat_natCast, rw_land, sh_land, not_true_eq_false, e118']; omega), ?_⟩
              iterate 2 (refine hX _ ?_; conv => whnf)
              refine hX _ ?_; conv => whnf
              try (simp (disch := omega) only [bg_w_id, Int.toNat_natCast, rw_land, sh_land, not_true_eq_false, e118']; try conv => whnf)
              refine ⟨by first | omega | (simp (disch := omega) only [bg_w_id, Int.toNat_natCast, rw_land, sh_land, not_true_eq_false, e118']; omega), ?_⟩
              refine hX _ ?_; conv => whnf
              refine hX _ ?_; conv => whnf
              try rw [e118']
              refine ⟨by omega, hR1 l e hn c1 _ ⟨fun k k1 k2 k3 k4 k5 k6 k7 => ?_, fun j hj => ?_, fun j hj => ?_, fun j hj => ?_, fun j hj => ?_, fun j hj => ?_, fun j hj => ?_⟩ ?_ ⟨⟨?_, ?_, ?_, ?_, ?_⟩, fun p hp i hi => ?_, fun u hu i hi => ?_⟩ ⟨fun p hp i hi => ?_, fun u hu => ?_⟩⟩
              · rw [bg_up_ne k4, g1 k k5, f1.1 k k1 k7]
              · rw [bg_up_ne (by omega), g1 115 (by omega)]; exact f1.2 j hj
              · rw [bg_up_ne (by omega), g1 117 (by omega), f1.1 117 (by omega) (by omega)]
              · rw [bg_up_nj hj, g1 119 (by omega), f1.1 119 (by omega) (by omega)]
              · rw [bg_up_ne (by omega), g1 118 (by omega), f1.1 118 (by omega) (by omega)]
              · rw [bg_up_ne (by omega), g2 j (by omega), f1.1 120 (by omega) (by omega)]
              · rw [bg_up_ne (by omega), g1 121 (by omega), f1.1 121 (by omega) (by omega)]
              · rw [bg_up_ne (by omega), g1 115 (by omega)]; exact f2
              · rw [bg_up_ne (by omega), g1 117 (by omega), f1.1 117 (by omega) (by omega)]; exact a1
              · show _ = (((D.2.1 ++ [l]).length : Nat) : Int)
                rw [show ((3 : Nat) : Int) = 3 from rfl, bg_up_self]
                simp
                omega
              · rw [bg_up_ne (by omega), g1 121 (by omega), f1.1 121 (by omega) (by omega)]; exact a3
              · rw [bg_up_ne (by omega), g1 121 (by omega), f1.1 121 (by omega) (by omega)]; exact a4
              · rw [bg_up_ne (by omega), g1 121 (by omega), f1.1 121 (by omega) (by omega)]; exact a5
              · rw [bg_up_ne (by omega), g1 118 (by omega), f1.1 118 (by omega) (by omega)]; exact b1 p hp i hi
              · have hu : u < (D.2.1 ++ [l]).length := hu
                simp at hu
                show _ = gr (D.2.1 ++ [l]) u i
                rw [bg_up_ne (by omega), gr_snoc]
                by_cases x : u < D.2.1.length
                · rw [if_pos x, g2 _ (by omega), f1.1 120 (by omega) (by omega)]
                  exact b2 u (by omega) i hi
                · rw [if_neg x, if_pos (by omega), show (9 : Int) * ((3 : Nat) : Int) + 3 * (u : Int) + (i : Int) = 27 + 3 * (t : Int) + i by omega]
                  exact g3 i hi
              · rw [bg_up_ne (by omega), g1 118 (by omega), f1.1 118 (by omega) (by omega)]; exact hg.1 p hp i hi
              · rw [bg_up_ne (by omega)]
                by_cases x : u = t
                · have r0 := g3 0 (by omega)
                  have r1 := g3 1 (by omega)
                  have r2 := g3 2 (by omega)
                  rw [show (9 : Int) * ((3 : Nat) : Int) + 3 * (u : Int) = 27 + 3 * (t : Int) + ((0 : Nat) : Int) by omega, show 27 + 3 * (t : Int) + ((0 : Nat) : Int) + 1 = 27 + 3 * (t : Int) + ((1 : Nat) : Int) by omega, show 27 + 3 * (t : Int) + ((0 : Nat) : Int) + 2 = 27 + 3 * (t : Int) + ((2 : Nat) : Int) by omega, r0, r1, r2]
                  omega
                · rw [g2 _ (by omega), g2 _ (by omega), g2 _ (by omega), f1.1 120 (by omega) (by omega)]
                  exact hg.2 u hu
            · exfalso
              (try simp (disch := omega) only [bg_w_id, Int.toNat_natCast, rw_land, sh_land, not_true_eq_false, e118', kc0, kc1, kc2, kc3, kc4, kc5, kc6, kc7, kc8, kc9, kc10, kc11, kc12, kc13, kc14, kc15, kc16, kc17, kc18, kc19, kc20, kc21, kc22, kc23, kc24, kc25, kc26, kc27, kc28, kc29, kc30, kc31, kc32, kc33] at q80) <;> (omega)
          · intro h2 g1 g2 g3
            have e118' : h2 119 3 = (t : Int) := by rw [g1 119 (by omega)]; exact e118
            have ei : h2 129 i = gl l i := by rw [g1 129 (by omega)]; exact f3 i (by omega)
            iterate 2 (refine hX _ ?_; conv => whnf)
            refine hX _ ?_; conv => whnf
            refine ⟨fun q80 => ?_, fun q80 => ?_⟩
            · exfalso
              (try simp (disch := omega) only [bg_w_id, Int.toNat_natCast, rw_land, sh_land, not_true_eq_false, e118', kc0, kc1, kc2, kc3, kc4, kc5, kc6, kc7, kc8, kc9, kc10, kc11, kc12, kc13, kc14, kc15, kc16, kc17, kc18, kc19, kc20, kc21, kc22, kc23, kc24, kc25, kc26, kc27, kc28, kc29, kc30, kc31, kc32, kc33] at q80) <;> (omega)
            · try simp (disch := omega) only [bg_w_id, Int.toNat_natCast, rw_land, sh_land, not_true_eq_false, e118', kc0, kc1, kc2, kc3, kc4, kc5, kc6, kc7, kc8, kc9, kc10, kc11, kc12, kc13, kc14, kc15, kc16, kc17, kc18, kc19, kc20, kc21, kc22, kc23, kc24, kc25, kc26, kc27, kc28, kc29, kc30, kc31, kc32, kc33] at q80
              iterate 7 (refine hX _ ?_; conv => whnf)
              refine hX _ ?_; conv => whnf
              try (simp (disch := omega) only [bg_w_id, Int.toNat_natCast, rw_land, sh_land, not_true_eq_false, e118']; try conv => whnf)
              refine ⟨by first | omega | (simp (disch := omega) only [bg_w_id, Int.toNat_natCast, rw_land, sh_land, not_true_eq_false, e118']; omega), ?_⟩
              iterate 7 (refine hX _ ?_; conv => whnf)
              refine hX _ ?_; conv => whnf
              try (simp (disch := omega) only [bg_w_id, Int.toNat_natCast, rw_land, sh_land, not_true_eq_false, e118']; try conv => whnf)
              refine ⟨by first | omega | (simp (disch := omega) only [bg_w_id, Int.toNat_natCast, rw_land, sh_land, not_true_eq_false, e118']; omega), ?_⟩
              refine hX _ ?_; conv => whnf
              try (simp (disch := omega) only [bg_w_id, Int.toNat_natCast, rw_land, sh_land, not_true_eq_false, e118']; try conv => whnf)
              refine ⟨by first | omega | (simp (disch := omega) only [bg_w_id, Int.toNat_natCast, rw_land, sh_land, not_true_eq_false, e118']; omega), ?_⟩
              iterate 2 (refine hX _ ?_; conv => whnf)
              refine ih _ (fun k hk => ?_) (fun j hj => ?_) (fun j hj => ?_)
              · rw [bg_up_ne hk]; exact g1 k hk
              · rw [bg_up_nj (by omega)]; exact g2 j (by omega)
              · by_cases x : j = i
                · subst x; rw [bg_up_self]; exact ei
                · rw [bg_up_nj (by omega)]; exact g3 j (by omega)
        iterate 3 (refine hX _ ?_; conv => whnf)
        refine hX _ ?_; conv => whnf
        try (simp (disch := omega) only [bg_w_id, Int.toNat_natCast, rw_land, sh_land, not_true_eq_false, e0, e1, e2, e116, e118]; try conv => whnf)
        refine ⟨by first | omega | (simp (disch := omega) only [bg_w_id, Int.toNat_natCast, rw_land, sh_land, not_true_eq_false, e0, e1, e2, e116, e118]; omega), ?_⟩
        iterate 3 (refine hX _ ?_; conv => whnf)
        refine hX _ ?_; conv => whnf
        try (simp (disch := omega) only [bg_w_id, Int.toNat_natCast, rw_land, sh_land, not_true_eq_false, e0, e1, e2, e116, e118]; try conv => whnf)
        refine ⟨by first | omega | (simp (disch := omega) only [bg_w_id, Int.toNat_natCast, rw_land, sh_land, not_true_eq_false, e0, e1, e2, e116, e118]; omega), ?_⟩
        refine hX _ ?_; conv => whnf
        refine ⟨fun q20 => ?_, fun q20 => ?_⟩
        · exfalso
          (try simp (disch := omega) only [bg_w_id, Int.toNat_natCast, rw_land, sh_land, not_true_eq_false, e0, e1, e2, e116, e118, kc0, kc1, kc2, kc3, kc4, kc5, kc6, kc7, kc8, kc9, kc10, kc11, kc12, kc13, kc14, kc15, kc16, kc17, kc18, kc19, kc20, kc21, kc22, kc23, kc24, kc25, kc26, kc27, kc28, kc29, kc30, kc31, kc32, kc33] at q20) <;> (omega)
        · try simp (disch := omega) only [bg_w_id, Int.toNat_natCast, rw_land, sh_land, not_true_eq_false, e0, e1, e2, e116, e118, kc0, kc1, kc2, kc3, kc4, kc5, kc6, kc7, kc8, kc9, kc10, kc11, kc12, kc13, kc14, kc15, kc16, kc17, kc18, kc19, kc20, kc21, kc22, kc23, kc24, kc25, kc26, kc27, kc28, kc29, kc30, kc31, kc32, kc33] at q20
          iterate 3 (refine hX _ ?_; conv => whnf)
          refine hX _ ?_; conv => whnf
          try (simp (disch := omega) only [bg_w_id, Int.toNat_natCast, rw_land, sh_land, not_true_eq_false, e0, e1, e2, e116, e118]; try conv => whnf)
          refine ⟨by first | omega | (simp (disch := omega) only [bg_w_id, Int.toNat_natCast, rw_land, sh_land, not_true_eq_false, e0, e1, e2, e116, e118]; omega), ?_⟩
          iterate 3 (refine hX _ ?_; conv => whnf)
          refine hX _ ?_; conv => whnf
          try (simp (disch := omega) only [bg_w_id, Int.toNat_natCast, rw_land, sh_land, not_true_eq_false, e0, e1, e2, e116, e118]; try conv => whnf)
          refine ⟨by first | omega | (simp (disch := omega) only [bg_w_id, Int.toNat_natCast, rw_land, sh_land, not_true_eq_false, e0, e1, e2, e116, e118]; omega), ?_⟩
          refine hX _ ?_; conv => whnf
          refine ⟨fun q35 => ?_, fun q35 => ?_⟩
          · exfalso
            (try simp (disch := omega) only [bg_w_id, Int.toNat_natCast, rw_land, sh_land, not_true_eq_false, e0, e1, e2, e116, e118, kc0, kc1, kc2, kc3, kc4, kc5, kc6, kc7, kc8, kc9, kc10, kc11, kc12, kc13, kc14, kc15, kc16, kc17, kc18, kc19, kc20, kc21, kc22, kc23, kc24, kc25, kc26, kc27, kc28, kc29, kc30, kc31, kc32, kc33] at q35) <;> (omega)
          · try simp (disch := omega) only [bg_w_id, Int.toNat_natCast, rw_land, sh_land, not_true_eq_false, e0, e1, e2, e116, e118, kc0, kc1, kc2, kc3, kc4, kc5, kc6, kc7, kc8, kc9, kc10, kc11, kc12, kc13, kc14, kc15, kc16, kc17, kc18, kc19, kc20, kc21, kc22, kc23, kc24, kc25, kc26, kc27, kc28, kc29, kc30, kc31, kc32, kc33] at q35
            iterate 3 (refine hX _ ?_; conv => whnf)
            refine hX _ ?_; conv => whnf
            try (simp (disch := omega) only [bg_w_id, Int.toNat_natCast, rw_land, sh_land, not_true_eq_false, e0, e1, e2, e116, e118]; try conv => whnf)
            refine ⟨by first | omega | (simp (disch := omega) only [bg_w_id, Int.toNat_natCast, rw_land, sh_land, not_true_eq_false, e0, e1, e2, e116, e118]; omega), ?_⟩
            iterate 3 (refine hX _ ?_; conv => whnf)
            refine hX _ ?_; conv => whnf
            try (simp (disch := omega) only [bg_w_id, Int.toNat_natCast, rw_land, sh_land, not_true_eq_false, e0, e1, e2, e116, e118]; try conv => whnf)
            refine ⟨by first | omega | (simp (disch := omega) only [bg_w_id, Int.toNat_natCast, rw_land, sh_land, not_true_eq_false, e0, e1, e2, e116, e118]; omega), ?_⟩
            refine hX _ ?_; conv => whnf
            refine ⟨fun q50 => ?_, fun q50 => ?_⟩
            · exfalso
              (try simp (disch := omega) only [bg_w_id, Int.toNat_natCast, rw_land, sh_land, not_true_eq_false, e0, e1, e2, e116, e118, kc0, kc1, kc2, kc3, kc4, kc5, kc6, kc7, kc8, kc9, kc10, kc11, kc12, kc13, kc14, kc15, kc16, kc17, kc18, kc19, kc20, kc21, kc22, kc23, kc24, kc25, kc26, kc27, kc28, kc29, kc30, kc31, kc32, kc33] at q50) <;> (omega)
            · try simp (disch := omega) only [bg_w_id, Int.toNat_natCast, rw_land, sh_land, not_true_eq_false, e0, e1, e2, e116, e118, kc0, kc1, kc2, kc3, kc4, kc5, kc6, kc7, kc8, kc9, kc10, kc11, kc12, kc13, kc14, kc15, kc16, kc17, kc18, kc19, kc20, kc21, kc22, kc23, kc24, kc25, kc26, kc27, kc28, kc29, kc30, kc31, kc32, kc33] at q50
              iterate 3 (refine hX _ ?_; conv => whnf)
              refine hX _ ?_; conv => whnf
              try (simp (disch := omega) only [bg_w_id, Int.toNat_natCast, rw_land, sh_land, not_true_eq_false, e0, e1, e2, e116, e118]; try conv => whnf)
              refine ⟨by first | omega | (simp (disch := omega) only [bg_w_id, Int.toNat_natCast, rw_land, sh_land, not_true_eq_false, e0, e1, e2, e116, e118]; omega), ?_⟩
              refine hX _ ?_; conv => whnf
              refine hX _ ?_; conv => whnf
              refine ⟨fun q61 => ?_, fun q61 => ?_⟩
              · exfalso
                (try simp (disch := omega) only [bg_w_id, Int.toNat_natCast, rw_land, sh_land, not_true_eq_false, e0, e1, e2, e116, e118, kc0, kc1, kc2, kc3, kc4, kc5, kc6, kc7, kc8, kc9, kc10, kc11, kc12, kc13, kc14, kc15, kc16, kc17, kc18, kc19, kc20, kc21, kc22, kc23, kc24, kc25, kc26, kc27, kc28, kc29, kc30, kc31, kc32, kc33] at q61) <;> (omega)
              · try simp (disch := omega) only [bg_w_id, Int.toNat_natCast, rw_land, sh_land, not_true_eq_false, e0, e1, e2, e116, e118, kc0, kc1, kc2, kc3, kc4, kc5, kc6, kc7, kc8, kc9, kc10, kc11, kc12, kc13, kc14, kc15, kc16, kc17, kc18, kc19, kc20, kc21, kc22, kc23, kc24, kc25, kc26, kc27, kc28, kc29, kc30, kc31, kc32, kc33] at q61
                iterate 3 (refine hX _ ?_; conv => whnf)
                refine hX _ ?_; conv => whnf
                try (simp (disch := omega) only [bg_w_id, Int.toNat_natCast, rw_land, sh_land, not_true_eq_false, e0, e1, e2, e116, e118]; try conv => whnf)
                refine ⟨by first | omega | (simp (disch := omega) only [bg_w_id, Int.toNat_natCast, rw_land, sh_land, not_true_eq_false, e0, e1, e2, e116, e118]; omega), ?_⟩
                refine hX _ ?_; conv => whnf
                refine hX _ ?_; conv => whnf
                refine ⟨fun q71 => ?_, fun q71 => ?_⟩
                · try simp (disch := omega) only [bg_w_id, Int.toNat_natCast, rw_land, sh_land, not_true_eq_false, e0, e1, e2, e116, e118, kc0, kc1, kc2, kc3, kc4, kc5, kc6, kc7, kc8, kc9, kc10, kc11, kc12, kc13, kc14, kc15, kc16, kc17, kc18, kc19, kc20, kc21, kc22, kc23, kc24, kc25, kc26, kc27, kc28, kc29, kc30, kc31, kc32, kc33] at q71
                  iterate 2 (refine hX _ ?_; conv => whnf)
                  exact l1 0 (by omega) h1 (fun _ _ => rfl) (fun _ _ => rfl) (fun j hj => absurd hj (by omega))
                · exfalso
                  (try simp (disch := omega) only [bg_w_id, Int.toNat_natCast, rw_land, sh_land, not_true_eq_false, e0, e1, e2, e116, e118, kc0, kc1, kc2, kc3, kc4, kc5, kc6, kc7, kc8, kc9, kc10, kc11, kc12, kc13, kc14, kc15, kc16, kc17, kc18, kc19, kc20, kc21, kc22, kc23, kc24, kc25, kc26, kc27, kc28, kc29, kc30, kc31, kc32, kc33] at q71) <;> (omega)
      · have hR0 := hR0 (fun l' e' q => by
          rw [hn, Option.some.injEq, Prod.mk.injEq] at q
          rw [← q.1]
          exact c1) h1 (frF_I f1) (rgB_fr hg (f1.1 118 (by omega) (by omega)) (f1.1 120 (by omega) (by omega)))
        iterate 3 (refine hX _ ?_; conv => whnf)
        refine hX _ ?_; conv => whnf
        try (simp (disch := omega) only [bg_w_id, Int.toNat_natCast, rw_land, sh_land, not_true_eq_false, e0, e1, e2, e116, e118]; try conv => whnf)
        refine ⟨by first | omega | (simp (disch := omega) only [bg_w_id, Int.toNat_natCast, rw_land, sh_land, not_true_eq_false, e0, e1, e2, e116, e118]; omega), ?_⟩
        iterate 3 (refine hX _ ?_; conv => whnf)
        refine hX _ ?_; conv => whnf
        try (simp (disch := omega) only [bg_w_id, Int.toNat_natCast, rw_land, sh_land, not_true_eq_false, e0, e1, e2, e116, e118]; try conv => whnf)
        refine ⟨by first | omega | (simp (disch := omega) only [bg_w_id, Int.toNat_natCast, rw_land, sh_land, not_true_eq_false, e0, e1, e2, e116, e118]; omega), ?_⟩
        refine hX _ ?_; conv => whnf
        refine ⟨fun q20 => ?_, fun q20 => ?_⟩
        · try simp (disch := omega) only [bg_w_id, Int.toNat_natCast, rw_land, sh_land, not_true_eq_false, e0, e1, e2, e116, e118, kc0, kc1, kc2, kc3, kc4, kc5, kc6, kc7, kc8, kc9, kc10, kc11, kc12, kc13, kc14, kc15, kc16, kc17, kc18, kc19, kc20, kc21, kc22, kc23, kc24, kc25, kc26, kc27, kc28, kc29, kc30, kc31, kc32, kc33] at q20
          refine hX _ ?_; conv => whnf
          refine hX _ ?_; conv => whnf
          exact ⟨by omega, hR0⟩
        · try simp (disch := omega) only [bg_w_id, Int.toNat_natCast, rw_land, sh_land, not_true_eq_false, e0, e1, e2, e116, e118, kc0, kc1, kc2, kc3, kc4, kc5, kc6, kc7, kc8, kc9, kc10, kc11, kc12, kc13, kc14, kc15, kc16, kc17, kc18, kc19, kc20, kc21, kc22, kc23, kc24, kc25, kc26, kc27, kc28, kc29, kc30, kc31, kc32, kc33] at q20
          iterate 3 (refine hX _ ?_; conv => whnf)
          refine hX _ ?_; conv => whnf
          try (simp (disch := omega) only [bg_w_id, Int.toNat_natCast, rw_land, sh_land, not_true_eq_false, e0, e1, e2, e116, e118]; try conv => whnf)
          refine ⟨by first | omega | (simp (disch := omega) only [bg_w_id, Int.toNat_natCast, rw_land, sh_land, not_true_eq_false, e0, e1, e2, e116, e118]; omega), ?_⟩
          iterate 3 (refine hX _ ?_; conv => whnf)
          refine hX _ ?_; conv => whnf
          try (simp (disch := omega) only [bg_w_id, Int.toNat_natCast, rw_land, sh_land, not_true_eq_false, e0, e1, e2, e116, e118]; try conv => whnf)
          refine ⟨by first | omega | (simp (disch := omega) only [bg_w_id, Int.toNat_natCast, rw_land, sh_land, not_true_eq_false, e0, e1, e2, e116, e118]; omega), ?_⟩
          refine hX _ ?_; conv => whnf
          refine ⟨fun q35 => ?_, fun q35 => ?_⟩
          · try simp (disch := omega) only [bg_w_id, Int.toNat_natCast, rw_land, sh_land, not_true_eq_false, e0, e1, e2, e116, e118, kc0, kc1, kc2, kc3, kc4, kc5, kc6, kc7, kc8, kc9, kc10, kc11, kc12, kc13, kc14, kc15, kc16, kc17, kc18, kc19, kc20, kc21, kc22, kc23, kc24, kc25, kc26, kc27, kc28, kc29, kc30, kc31, kc32, kc33] at q35
            refine hX _ ?_; conv => whnf
            refine hX _ ?_; conv => whnf
            exact ⟨by omega, hR0⟩
          · try simp (disch := omega) only [bg_w_id, Int.toNat_natCast, rw_land, sh_land, not_true_eq_false, e0, e1, e2, e116, e118, kc0, kc1, kc2, kc3, kc4, kc5, kc6, kc7, kc8, kc9, kc10, kc11, kc12, kc13, kc14, kc15, kc16, kc17, kc18, kc19, kc20, kc21, kc22, kc23, kc24, kc25, kc26, kc27, kc28, kc29, kc30, kc31, kc32, kc33] at q35
            iterate 3 (refine hX _ ?_; conv => whnf)
            refine hX _ ?_; conv => whnf
            try (simp (disch := omega) only [bg_w_id, Int.toNat_natCast, rw_land, sh_land, not_true_eq_false, e0, e1, e2, e116, e118]; try conv => whnf)
            refine ⟨by first | omega | (simp (disch := omega) only [bg_w_id, Int.toNat_natCast, rw_land, sh_land, not_true_eq_false, e0, e1, e2, e116, e118]; omega), ?_⟩
            iterate 3 (refine hX _ ?_; conv => whnf)
            refine hX _ ?_; conv => whnf
            try (simp (disch := omega) only [bg_w_id, Int.toNat_natCast, rw_land, sh_land, not_true_eq_false, e0, e1, e2, e116, e118]; try conv => whnf)
            refine ⟨by first | omega | (simp (disch := omega) only [bg_w_id, Int.toNat_natCast, rw_land, sh_land, not_true_eq_false, e0, e1, e2, e116, e118]; omega), ?_⟩
            refine hX _ ?_; conv => whnf
            refine ⟨fun q50 => ?_, fun q50 => ?_⟩
            · try simp (disch := omega) only [bg_w_id, Int.toNat_natCast, rw_land, sh_land, not_true_eq_false, e0, e1, e2, e116, e118, kc0, kc1, kc2, kc3, kc4, kc5, kc6, kc7, kc8, kc9, kc10, kc11, kc12, kc13, kc14, kc15, kc16, kc17, kc18, kc19, kc20, kc21, kc22, kc23, kc24, kc25, kc26, kc27, kc28, kc29, kc30, kc31, kc32, kc33] at q50
              refine hX _ ?_; conv => whnf
              refine hX _ ?_; conv => whnf
              exact ⟨by omega, hR0⟩
            · try simp (disch := omega) only [bg_w_id, Int.toNat_natCast, rw_land, sh_land, not_true_eq_false, e0, e1, e2, e116, e118, kc0, kc1, kc2, kc3, kc4, kc5, kc6, kc7, kc8, kc9, kc10, kc11, kc12, kc13, kc14, kc15, kc16, kc17, kc18, kc19, kc20, kc21, kc22, kc23, kc24, kc25, kc26, kc27, kc28, kc29, kc30, kc31, kc32, kc33] at q50
              iterate 3 (refine hX _ ?_; conv => whnf)
              refine hX _ ?_; conv => whnf
              try (simp (disch := omega) only [bg_w_id, Int.toNat_natCast, rw_land, sh_land, not_true_eq_false, e0, e1, e2, e116, e118]; try conv => whnf)
              refine ⟨by first | omega | (simp (disch := omega) only [bg_w_id, Int.toNat_natCast, rw_land, sh_land, not_true_eq_false, e0, e1, e2, e116, e118]; omega), ?_⟩
              refine hX _ ?_; conv => whnf
              refine hX _ ?_; conv => whnf
              refine ⟨fun q61 => ?_, fun q61 => ?_⟩
              · try simp (disch := omega) only [bg_w_id, Int.toNat_natCast, rw_land, sh_land, not_true_eq_false, e0, e1, e2, e116, e118, kc0, kc1, kc2, kc3, kc4, kc5, kc6, kc7, kc8, kc9, kc10, kc11, kc12, kc13, kc14, kc15, kc16, kc17, kc18, kc19, kc20, kc21, kc22, kc23, kc24, kc25, kc26, kc27, kc28, kc29, kc30, kc31, kc32, kc33] at q61
                refine hX _ ?_; conv => whnf
                refine hX _ ?_; conv => whnf
                exact ⟨by omega, hR0⟩
              · try simp (disch := omega) only [bg_w_id, Int.toNat_natCast, rw_land, sh_land, not_true_eq_false, e0, e1, e2, e116, e118, kc0, kc1, kc2, kc3, kc4, kc5, kc6, kc7, kc8, kc9, kc10, kc11, kc12, kc13, kc14, kc15, kc16, kc17, kc18, kc19, kc20, kc21, kc22, kc23, kc24, kc25, kc26, kc27, kc28, kc29, kc30, kc31, kc32, kc33] at q61
                iterate 3 (refine hX _ ?_; conv => whnf)
                refine hX _ ?_; conv => whnf
                try (simp (disch := omega) only [bg_w_id, Int.toNat_natCast, rw_land, sh_land, not_true_eq_false, e0, e1, e2, e116, e118]; try conv => whnf)
                refine ⟨by first | omega | (simp (disch := omega) only [bg_w_id, Int.toNat_natCast, rw_land, sh_land, not_true_eq_false, e0, e1, e2, e116, e118]; omega), ?_⟩
                refine hX _ ?_; conv => whnf
                refine hX _ ?_; conv => whnf
                refine ⟨fun q71 => ?_, fun q71 => ?_⟩
                · try simp (disch := omega) only [bg_w_id, Int.toNat_natCast, rw_land, sh_land, not_true_eq_false, e0, e1, e2, e116, e118, kc0, kc1, kc2, kc3, kc4, kc5, kc6, kc7, kc8, kc9, kc10, kc11, kc12, kc13, kc14, kc15, kc16, kc17, kc18, kc19, kc20, kc21, kc22, kc23, kc24, kc25, kc26, kc27, kc28, kc29, kc30, kc31, kc32, kc33] at q71
                  exfalso; omega
                · try simp (disch := omega) only [bg_w_id, Int.toNat_natCast, rw_land, sh_land, not_true_eq_false, e0, e1, e2, e116, e118, kc0, kc1, kc2, kc3, kc4, kc5, kc6, kc7, kc8, kc9, kc10, kc11, kc12, kc13, kc14, kc15, kc16, kc17, kc18, kc19, kc20, kc21, kc22, kc23, kc24, kc25, kc26, kc27, kc28, kc29, kc30, kc31, kc32, kc33] at q71
                  refine hX _ ?_; conv => whnf
                  refine hX _ ?_; conv => whnf
                  exact ⟨by omega, hR0⟩
    iterate 2 (refine hX _ ?_; conv => whnf)
    refine hX _ ?_; conv => whnf
    try simp (disch := omega) only [bg_w_id, Int.toNat_natCast, rw_land, sh_land, not_true_eq_false]
    refine s_mfigures (d + 0) n 3 a L (by omega) ha T h ht h18 _ (fun l' e' q h' f1 f2 f3 => ?_) (fun q => absurd (hn.symm.trans q) (by simp))
    rw [hn, Option.some.injEq, Prod.mk.injEq] at q
    obtain ⟨rfl, rfl⟩ := q
    conv => whnf
    refine hX _ ?_; conv => whnf
    refine ⟨fun q5 => ?_, fun q5 => ?_⟩
    · exfalso
      (try simp (disch := omega) only [bg_w_id, Int.toNat_natCast, rw_land, sh_land, not_true_eq_false, kc0, kc1, kc2, kc3, kc4, kc5, kc6, kc7, kc8, kc9, kc10, kc11, kc12, kc13, kc14, kc15, kc16, kc17, kc18, kc19, kc20, kc21, kc22, kc23, kc24, kc25, kc26, kc27, kc28, kc29, kc30, kc31, kc32, kc33] at q5) <;> (omega)
    · try simp (disch := omega) only [bg_w_id, Int.toNat_natCast, rw_land, sh_land, not_true_eq_false, kc0, kc1, kc2, kc3, kc4, kc5, kc6, kc7, kc8, kc9, kc10, kc11, kc12, kc13, kc14, kc15, kc16, kc17, kc18, kc19, kc20, kc21, kc22, kc23, kc24, kc25, kc26, kc27, kc28, kc29, kc30, kc31, kc32, kc33] at q5
      exact go h' f1 f2 f3
theorem item_at {b : Nat → Int} {a : Nat} {D : LD} {c : Int} {s : Nat} (hc : b a = c) (hs : cnt c = s) : itemF b a D = match nums b s (a + 1) with
  | some (l, e) => (match tk c s l D with
    | some D' => some (D', e)
    | none => none)
  | none => none := by
  subst hc
  subst hs
  rfl
theorem s_mitem (d n a L : Nat) (ha : a < L) (T : Int → Int) (D : LD) (hD1 : D.1.length ≤ 12) (hD2 : D.2.1.length ≤ 3) (h : bg_G) (ht : txM h T L) (h18 : h 115 18 = a) (hh : holdM h 3 D) (hg : rgB h 3) (Rt : bg_R) (hR1 : ∀ (D' : LD) (e : Nat), itemF (byt T L) a D = some (D', e) → ∀ h' : bg_G, frI h h' → h' 115 18 = e → holdM h' 3 D' → rgB h' 3 → Rt (some (.inl 1)) (bg_SH n, h')) (hR0 : itemF (byt T L) a D = none → ∀ h' : bg_G, frI h h' → rgB h' 3 → Rt (some (.inl 0)) (bg_SH n, h')) : bg_Ca bg_MS (d + 4) 123 [vR 115] (bg_SH n, h) Rt := by
  obtain ⟨t1, t2, t3⟩ := id ht
  obtain ⟨c, hc⟩ : ∃ c : Int, c = byt T L a := ⟨_, rfl⟩
  have rc := byt_rg ht a
  rw [← hc] at rc
  -- behind the letter
  obtain ⟨h1, eh⟩ : ∃ h1 : bg_G, h1 = bg_up h 115 18 ((a : Int) + 1) := ⟨_, rfl⟩
  have u1 : ∀ k, k ≠ 115 → h1 k = h k := fun k hk => by rw [eh]; exact bg_up_ne hk
  have u2 : ∀ j, j ≠ 18 → h1 115 j = h 115 j := fun j hj => by rw [eh]; exact bg_up_nj hj
  have u3 : h1 115 18 = ((a + 1 : Nat) : Int) := by rw [eh, bg_up_self]; omega
  have ff : frF h h1 := ⟨fun k k1 _ => u1 k k1, u2⟩
  have ht1 : txM h1 T L := ⟨by rw [u2 0 (by omega)]; exact t1, t2, fun i hi => by rw [u1 116 (by omega)]; exact t3 i hi⟩
  have hh1 : holdM h1 3 D := holdM_fr hh (u1 _ (by omega)) (u1 _ (by omega)) (u1 _ (by omega)) (u1 _ (by omega)) (u1 _ (by omega))
  have hg1 : rgB h1 3 := rgB_fr hg (u1 _ (by omega)) (u1 _ (by omega))
  obtain ⟨⟨a1, a2, a3, a4, a5⟩, b1, b2⟩ := id hh
  -- one number
  have one : ∀ (l : List Int) (e : Nat) (h2 : bg_G), nums (byt T L) 1 (a + 1) = some (l, e) → frF h1 h2 → h2 115 18 = (e : Int) → (∀ i : Nat, i < 1 → h2 129 i = gl l i) → (0 ≤ gl l 0 ∧ gl l 0 ≤ 999) ∧ h2 129 0 = gl l 0 ∧ holdM h2 3 D ∧ rgB h2 3 ∧ frI h h2 := fun l e h2 hn f1 f2 f3 => by
    have nr := nums_rg _ _ l e hn
    exact ⟨gl_rg nr.2.2.2.2 0, f3 0 (by omega), holdM_fr hh1 (f1.1 _ (by omega) (by omega)) (f1.1 _ (by omega) (by omega)) (f1.1 _ (by omega) (by omega)) (f1.1 _ (by omega) (by omega)) (f1.1 _ (by omega) (by omega)), rgB_fr hg1 (f1.1 _ (by omega) (by omega)) (f1.1 _ (by omega) (by omega)), frI_trans (frF_I ff) (frF_I f1)⟩
  have upm : ∀ (h2 : bg_G) (j v : Int), 9 ≤ j → frI h h2 → frI h (bg_up h2 121 j v) := fun h2 j v hj g => by
    refine ⟨fun k k1 k2 k3 k4 k5 k6 k7 => ?_, fun i hi => ?_, fun i hi => ?_, fun i hi => ?_, fun i hi => ?_, fun i hi => ?_, fun i hi => ?_⟩
    · rw [bg_up_ne k6]; exact g.1 k k1 k2 k3 k4 k5 k6 k7
    · rw [bg_up_ne (by omega)]; exact g.2.1 i hi
    · rw [bg_up_ne (by omega)]; exact g.2.2.1 i hi
    · rw [bg_up_ne (by omega)]; exact g.2.2.2.1 i hi
    · rw [bg_up_ne (by omega)]; exact g.2.2.2.2.1 i hi
    · rw [bg_up_ne (by omega)]; exact g.2.2.2.2.2.1 i hi
    · rw [bg_up_nj (by omega)]; exact g.2.2.2.2.2.2 i hi
  refine bg_ca (cd := cd_X9_item) rfl rfl ?_
  intro X hX
  have start : ∀ K : Prop, (X (20, [oR 115, oI c], [.inl c], (bg_SH n, h1), (0, 0)) → X (0, [oR 115, none], [], (bg_SH n, h), (0, 0))) := by
    intro K hx
    iterate 3 (refine hX _ ?_; conv => whnf)
    try simp only [kc0, kc1, kc2, kc3, kc4, kc5, kc6, kc7, kc8, kc9, kc10, kc11, kc12, kc13, kc14, kc15, kc16, kc17, kc18, kc19, kc20, kc21, kc22, kc23, kc24, kc25, kc26, kc27, kc28, kc29, kc30, kc31, kc32, kc33]
    refine hX _ ?_; conv => whnf
    try simp (disch := omega) only [bg_w_id, Int.toNat_natCast, rw_land, sh_land, not_true_eq_false]
    rw [h18]
    refine s_mbyteAt (d + 2) n a L T h ht (by omega) _ ?_
    rw [← hc]
    conv => whnf
    iterate 8 (refine hX _ ?_; conv => whnf)
    try simp only [kc0, kc1, kc2, kc3, kc4, kc5, kc6, kc7, kc8, kc9, kc10, kc11, kc12, kc13, kc14, kc15, kc16, kc17, kc18, kc19, kc20, kc21, kc22, kc23, kc24, kc25, kc26, kc27, kc28, kc29, kc30, kc31, kc32, kc33]
    rw [h18, ← eh]
    exact hx
  refine start True ?_
  by_cases c1 : c = 112
  · have it := item_at (D := D) (hc.symm.trans c1) (show cnt 112 = 7 from rfl)
    rw [it] at hR1 hR0
    have et1 : ∀ l, (okP l ∧ D.1.length < 12) → tk 112 7 l D = some (D.1 ++ [l], D.2) := fun l x => by
      unfold tk
      rw [if_pos rfl, if_pos ⟨rfl, (okP_iff l).2 x.1, x.2⟩]
    have et0 : ∀ l, ¬ (okP l ∧ D.1.length < 12) → tk 112 7 l D = none := fun l x => by
      unfold tk
      rw [if_pos rfl, if_neg (fun y => x ⟨(okP_iff l).1 y.2.1, y.2.2⟩)]
    have go : bg_Ca bg_MS (d + 3) 121 [vR 115] (bg_SH n, h1) (fun r H' => X (76, [oR 115, oI c], bg_push r [], H', (0, 0))) := by
      refine s_mpathItem d n (a + 1) L (by omega) T D hD1 h1 ht1 u3 hh1 hg1 _ (fun l e hn x y h2 f1 f2 f3 f4 => ?_) (fun x h2 f1 f4 => ?_)
      · have := hR1 (D.1 ++ [l], D.2) e (by rw [hn]; show (match tk 112 7 l D with | some D' => some (D', e) | none => none) = _; rw [et1 l ⟨x, y⟩]) h2 (frI_trans (frF_I ff) f1) f2 f3 f4
        refine hX _ ?_; conv => whnf
        exact ⟨by omega, this⟩
      · have := hR0 (by
          cases hn : nums (byt T L) 7 (a + 1) with
          | none => rfl
          | some pr =>
            obtain ⟨l, e⟩ := pr
            show (match tk 112 7 l D with | some D' => some (D', e) | none => none) = _
            rw [et0 l (x l e hn)]) h2 (frI_trans (frF_I ff) f1) f4
        refine hX _ ?_; conv => whnf
        exact ⟨by omega, this⟩
    refine hX _ ?_; conv => whnf
    refine ⟨fun q20_99 => ?_, fun n20_99 => ?_⟩
    · exfalso
      (try simp (disch := omega) only [bg_w_id, Int.toNat_natCast, rw_land, sh_land, not_true_eq_false, kc0, kc1, kc2, kc3, kc4, kc5, kc6, kc7, kc8, kc9, kc10, kc11, kc12, kc13, kc14, kc15, kc16, kc17, kc18, kc19, kc20, kc21, kc22, kc23, kc24, kc25, kc26, kc27, kc28, kc29, kc30, kc31, kc32, kc33] at q20_99) <;> omega
    try simp (disch := omega) only [bg_w_id, Int.toNat_natCast, rw_land, sh_land, not_true_eq_false, kc0, kc1, kc2, kc3, kc4, kc5, kc6, kc7, kc8, kc9, kc10, kc11, kc12, kc13, kc14, kc15, kc16, kc17, kc18, kc19, kc20, kc21, kc22, kc23, kc24, kc25, kc26, kc27, kc28, kc29, kc30, kc31, kc32, kc33] at n20_99
    conv => whnf
    refine ⟨fun q20_111 => ?_, fun n20_111 => ?_⟩
    · exfalso
      (try simp (disch := omega) only [bg_w_id, Int.toNat_natCast, rw_land, sh_land, not_true_eq_false, kc0, kc1, kc2, kc3, kc4, kc5, kc6, kc7, kc8, kc9, kc10, kc11, kc12, kc13, kc14, kc15, kc16, kc17, kc18, kc19, kc20, kc21, kc22, kc23, kc24, kc25, kc26, kc27, kc28, kc29, kc30, kc31, kc32, kc33] at q20_111) <;> omega
    try simp (disch := omega) only [bg_w_id, Int.toNat_natCast, rw_land, sh_land, not_true_eq_false, kc0, kc1, kc2, kc3, kc4, kc5, kc6, kc7, kc8, kc9, kc10, kc11, kc12, kc13, kc14, kc15, kc16, kc17, kc18, kc19, kc20, kc21, kc22, kc23, kc24, kc25, kc26, kc27, kc28, kc29, kc30, kc31, kc32, kc33] at n20_111
    conv => whnf
    refine ⟨fun q20_112 => ?_, fun n20_112 => ?_⟩
    · try simp (disch := omega) only [bg_w_id, Int.toNat_natCast, rw_land, sh_land, not_true_eq_false, kc0, kc1, kc2, kc3, kc4, kc5, kc6, kc7, kc8, kc9, kc10, kc11, kc12, kc13, kc14, kc15, kc16, kc17, kc18, kc19, kc20, kc21, kc22, kc23, kc24, kc25, kc26, kc27, kc28, kc29, kc30, kc31, kc32, kc33] at q20_112
      conv => whnf
      refine hX _ ?_; conv => whnf
      refine hX _ ?_; conv => whnf
      exact go
    try simp (disch := omega) only [bg_w_id, Int.toNat_natCast, rw_land, sh_land, not_true_eq_false, kc0, kc1, kc2, kc3, kc4, kc5, kc6, kc7, kc8, kc9, kc10, kc11, kc12, kc13, kc14, kc15, kc16, kc17, kc18, kc19, kc20, kc21, kc22, kc23, kc24, kc25, kc26, kc27, kc28, kc29, kc30, kc31, kc32, kc33] at n20_112
    conv => whnf
    refine ⟨fun q20_116 => ?_, fun n20_116 => ?_⟩
    · exfalso
      (try simp (disch := omega) only [bg_w_id, Int.toNat_natCast, rw_land, sh_land, not_true_eq_false, kc0, kc1, kc2, kc3, kc4, kc5, kc6, kc7, kc8, kc9, kc10, kc11, kc12, kc13, kc14, kc15, kc16, kc17, kc18, kc19, kc20, kc21, kc22, kc23, kc24, kc25, kc26, kc27, kc28, kc29, kc30, kc31, kc32, kc33] at q20_116) <;> omega
    try simp (disch := omega) only [bg_w_id, Int.toNat_natCast, rw_land, sh_land, not_true_eq_false, kc0, kc1, kc2, kc3, kc4, kc5, kc6, kc7, kc8, kc9, kc10, kc11, kc12, kc13, kc14, kc15, kc16, kc17, kc18, kc19, kc20, kc21, kc22, kc23, kc24, kc25, kc26, kc27, kc28, kc29, kc30, kc31, kc32, kc33] at n20_116
    conv => whnf
    refine ⟨fun q20_118 => ?_, fun n20_118 => ?_⟩
    · exfalso
      (try simp (disch := omega) only [bg_w_id, Int.toNat_natCast, rw_land, sh_land, not_true_eq_false, kc0, kc1, kc2, kc3, kc4, kc5, kc6, kc7, kc8, kc9, kc10, kc11, kc12, kc13, kc14, kc15, kc16, kc17, kc18, kc19, kc20, kc21, kc22, kc23, kc24, kc25, kc26, kc27, kc28, kc29, kc30, kc31, kc32, kc33] at q20_118) <;> omega
    try simp (disch := omega) only [bg_w_id, Int.toNat_natCast, rw_land, sh_land, not_true_eq_false, kc0, kc1, kc2, kc3, kc4, kc5, kc6, kc7, kc8, kc9, kc10, kc11, kc12, kc13, kc14, kc15, kc16, kc17, kc18, kc19, kc20, kc21, kc22, kc23, kc24, kc25, kc26, kc27, kc28, kc29, kc30, kc31, kc32, kc33] at n20_118
    conv => whnf
    exfalso; omega
  · by_cases c2 : c = 116
    · have it := item_at (D := D) (hc.symm.trans c2) (show cnt 116 = 3 from rfl)
      rw [it] at hR1 hR0
      have et : ∀ l, tk 116 3 l D = if (gl l 0 < D.1.length ∧ gl l 1 < D.1.length ∧ gl l 0 ≠ gl l 1 ∧ gl l 2 ≤ 20) ∧ D.2.1.length < 3 then some (D.1, D.2.1 ++ [l], D.2.2) else none := fun l => by
        unfold tk
        rw [if_neg (by decide), if_pos rfl]
        by_cases x : (gl l 0 < D.1.length ∧ gl l 1 < D.1.length ∧ gl l 0 ≠ gl l 1 ∧ gl l 2 ≤ 20) ∧ D.2.1.length < 3
        · rw [if_pos x, if_pos ⟨rfl, x⟩]
        · rw [if_neg x, if_neg (fun y => x y.2)]
      have go : bg_Ca bg_MS (d + 3) 122 [vR 115] (bg_SH n, h1) (fun r H' => X (81, [oR 115, oI c], bg_push r [], H', (0, 0))) := by
        refine s_mtowerItem d n (a + 1) L (by omega) T D hD1 hD2 h1 ht1 u3 hh1 hg1 _ (fun l e hn x h2 f1 f2 f3 f4 => ?_) (fun x h2 f1 f4 => ?_)
        · have := hR1 (D.1, D.2.1 ++ [l], D.2.2) e (by rw [hn]; show (match tk 116 3 l D with | some D' => some (D', e) | none => none) = _; rw [et, if_pos x]) h2 (frI_trans (frF_I ff) f1) f2 f3 f4
          refine hX _ ?_; conv => whnf
          exact ⟨by omega, this⟩
        · have := hR0 (by
            cases hn : nums (byt T L) 3 (a + 1) with
            | none => rfl
            | some pr =>
              obtain ⟨l, e⟩ := pr
              show (match tk 116 3 l D with | some D' => some (D', e) | none => none) = _
              rw [et, if_neg (x l e hn)]) h2 (frI_trans (frF_I ff) f1) f4
          refine hX _ ?_; conv => whnf
          exact ⟨by omega, this⟩
      refine hX _ ?_; conv => whnf
      refine ⟨fun q20_99 => ?_, fun n20_99 => ?_⟩
      · exfalso
        (try simp (disch := omega) only [bg_w_id, Int.toNat_natCast, rw_land, sh_land, not_true_eq_false, kc0, kc1, kc2, kc3, kc4, kc5, kc6, kc7, kc8, kc9, kc10, kc11, kc12, kc13, kc14, kc15, kc16, kc17, kc18, kc19, kc20, kc21, kc22, kc23, kc24, kc25, kc26, kc27, kc28, kc29, kc30, kc31, kc32, kc33] at q20_99) <;> omega
      try simp (disch := omega) only [bg_w_id, Int.toNat_natCast, rw_land, sh_land, not_true_eq_false, kc0, kc1, kc2, kc3, kc4, kc5, kc6, kc7, kc8, kc9, kc10, kc11, kc12, kc13, kc14, kc15, kc16, kc17, kc18, kc19, kc20, kc21, kc22, kc23, kc24, kc25, kc26, kc27, kc28, kc29, kc30, kc31, kc32, kc33] at n20_99
      conv => whnf
      refine ⟨fun q20_111 => ?_, fun n20_111 => ?_⟩
      · exfalso
        (try simp (disch := omega) only [bg_w_id, Int.toNat_natCast, rw_land, sh_land, not_true_eq_false, kc0, kc1, kc2, kc3, kc4, kc5, kc6, kc7, kc8, kc9, kc10, kc11, kc12, kc13, kc14, kc15, kc16, kc17, kc18, kc19, kc20, kc21, kc22, kc23, kc24, kc25, kc26, kc27, kc28, kc29, kc30, kc31, kc32, kc33] at q20_111) <;> omega
      try simp (disch := omega) only [bg_w_id, Int.toNat_natCast, rw_land, sh_land, not_true_eq_false, kc0, kc1, kc2, kc3, kc4, kc5, kc6, kc7, kc8, kc9, kc10, kc11, kc12, kc13, kc14, kc15, kc16, kc17, kc18, kc19, kc20, kc21, kc22, kc23, kc24, kc25, kc26, kc27, kc28, kc29, kc30, kc31, kc32, kc33] at n20_111
      conv => whnf
      refine ⟨fun q20_112 => ?_, fun n20_112 => ?_⟩
      · exfalso
        (try simp (disch := omega) only [bg_w_id, Int.toNat_natCast, rw_land, sh_land, not_true_eq_false, kc0, kc1, kc2, kc3, kc4, kc5, kc6, kc7, kc8, kc9, kc10, kc11, kc12, kc13, kc14, kc15, kc16, kc17, kc18, kc19, kc20, kc21, kc22, kc23, kc24, kc25, kc26, kc27, kc28, kc29, kc30, kc31, kc32, kc33] at q20_112) <;> omega
      try simp (disch := omega) only [bg_w_id, Int.toNat_natCast, rw_land, sh_land, not_true_eq_false, kc0, kc1, kc2, kc3, kc4, kc5, kc6, kc7, kc8, kc9, kc10, kc11, kc12, kc13, kc14, kc15, kc16, kc17, kc18, kc19, kc20, kc21, kc22, kc23, kc24, kc25, kc26, kc27, kc28, kc29, kc30, kc31, kc32, kc33] at n20_112
      conv => whnf
      refine ⟨fun q20_116 => ?_, fun n20_116 => ?_⟩
      · try simp (disch := omega) only [bg_w_id, Int.toNat_natCast, rw_land, sh_land, not_true_eq_false, kc0, kc1, kc2, kc3, kc4, kc5, kc6, kc7, kc8, kc9, kc10, kc11, kc12, kc13, kc14, kc15, kc16, kc17, kc18, kc19, kc20, kc21, kc22, kc23, kc24, kc25, kc26, kc27, kc28, kc29, kc30, kc31, kc32, kc33] at q20_116
        conv => whnf
        refine hX _ ?_; conv => whnf
        refine hX _ ?_; conv => whnf
        exact go
      try simp (disch := omega) only [bg_w_id, Int.toNat_natCast, rw_land, sh_land, not_true_eq_false, kc0, kc1, kc2, kc3, kc4, kc5, kc6, kc7, kc8, kc9, kc10, kc11, kc12, kc13, kc14, kc15, kc16, kc17, kc18, kc19, kc20, kc21, kc22, kc23, kc24, kc25, kc26, kc27, kc28, kc29, kc30, kc31, kc32, kc33] at n20_116
      conv => whnf
      refine ⟨fun q20_118 => ?_, fun n20_118 => ?_⟩
      · exfalso
        (try simp (disch := omega) only [bg_w_id, Int.toNat_natCast, rw_land, sh_land, not_true_eq_false, kc0, kc1, kc2, kc3, kc4, kc5, kc6, kc7, kc8, kc9, kc10, kc11, kc12, kc13, kc14, kc15, kc16, kc17, kc18, kc19, kc20, kc21, kc22, kc23, kc24, kc25, kc26, kc27, kc28, kc29, kc30, kc31, kc32, kc33] at q20_118) <;> omega
      try simp (disch := omega) only [bg_w_id, Int.toNat_natCast, rw_land, sh_land, not_true_eq_false, kc0, kc1, kc2, kc3, kc4, kc5, kc6, kc7, kc8, kc9, kc10, kc11, kc12, kc13, kc14, kc15, kc16, kc17, kc18, kc19, kc20, kc21, kc22, kc23, kc24, kc25, kc26, kc27, kc28, kc29, kc30, kc31, kc32, kc33] at n20_118
      conv => whnf
      exfalso; omega
    · have it := item_at (D := D) hc.symm (show cnt c = 1 by unfold cnt; rw [if_neg c1, if_neg c2])
      rw [it] at hR1 hR0
      have et : ∀ l, tk c 1 l D = if c = 99 then (if gl l 0 ≤ 300 then some (D.1, D.2.1, gl l 0, D.2.2.2) else none) else if c = 118 then some (D.1, D.2.1, D.2.2.1, gl l 0, D.2.2.2.2) else if c = 111 then some (D.1, D.2.1, D.2.2.1, D.2.2.2.1, gl l 0) else none := fun l => by
        unfold tk
        rw [if_neg c1, if_neg c2, if_pos rfl]
      cases hn : nums (byt T L) 1 (a + 1) with
      | none =>
        rw [hn] at hR0
        have hR0 := hR0 rfl
        refine hX _ ?_; conv => whnf
        refine ⟨fun q20_99 => ?_, fun n20_99 => ?_⟩
        · try simp (disch := omega) only [bg_w_id, Int.toNat_natCast, rw_land, sh_land, not_true_eq_false, kc0, kc1, kc2, kc3, kc4, kc5, kc6, kc7, kc8, kc9, kc10, kc11, kc12, kc13, kc14, kc15, kc16, kc17, kc18, kc19, kc20, kc21, kc22, kc23, kc24, kc25, kc26, kc27, kc28, kc29, kc30, kc31, kc32, kc33] at q20_99
          conv => whnf
          iterate 2 (refine hX _ ?_; conv => whnf)
          refine hX _ ?_; conv => whnf
          try simp (disch := omega) only [bg_w_id, Int.toNat_natCast, rw_land, sh_land, not_true_eq_false]
          refine s_mfigures (d + 1) n 1 (a + 1) L (by omega) (by omega) T h1 ht1 u3 _ (fun l e q => absurd (hn.symm.trans q) (by simp)) (fun _ h2 f1 => ?_)
          conv => whnf
          refine hX _ ?_; conv => whnf
          refine ⟨fun q87 => ?_, fun q87 => ?_⟩
          · try simp (disch := omega) only [bg_w_id, Int.toNat_natCast, rw_land, sh_land, not_true_eq_false, kc0, kc1, kc2, kc3, kc4, kc5, kc6, kc7, kc8, kc9, kc10, kc11, kc12, kc13, kc14, kc15, kc16, kc17, kc18, kc19, kc20, kc21, kc22, kc23, kc24, kc25, kc26, kc27, kc28, kc29, kc30, kc31, kc32, kc33] at q87
            refine hX _ ?_; conv => whnf
            refine hX _ ?_; conv => whnf
            exact ⟨by omega, hR0 h2 (frI_trans (frF_I ff) (frF_I f1)) (rgB_fr hg1 (f1.1 _ (by omega) (by omega)) (f1.1 _ (by omega) (by omega)))⟩
          · exfalso
            (try simp (disch := omega) only [bg_w_id, Int.toNat_natCast, rw_land, sh_land, not_true_eq_false, kc0, kc1, kc2, kc3, kc4, kc5, kc6, kc7, kc8, kc9, kc10, kc11, kc12, kc13, kc14, kc15, kc16, kc17, kc18, kc19, kc20, kc21, kc22, kc23, kc24, kc25, kc26, kc27, kc28, kc29, kc30, kc31, kc32, kc33] at q87) <;> (omega)
        try simp (disch := omega) only [bg_w_id, Int.toNat_natCast, rw_land, sh_land, not_true_eq_false, kc0, kc1, kc2, kc3, kc4, kc5, kc6, kc7, kc8, kc9, kc10, kc11, kc12, kc13, kc14, kc15, kc16, kc17, kc18, kc19, kc20, kc21, kc22, kc23, kc24, kc25, kc26, kc27, kc28, kc29, kc30, kc31, kc32, kc33] at n20_99
        conv => whnf
        refine ⟨fun q20_111 => ?_, fun n20_111 => ?_⟩
        · try simp (disch := omega) only [bg_w_id, Int.toNat_natCast, rw_land, sh_land, not_true_eq_false, kc0, kc1, kc2, kc3, kc4, kc5, kc6, kc7, kc8, kc9, kc10, kc11, kc12, kc13, kc14, kc15, kc16, kc17, kc18, kc19, kc20, kc21, kc22, kc23, kc24, kc25, kc26, kc27, kc28, kc29, kc30, kc31, kc32, kc33] at q20_111
          conv => whnf
          iterate 2 (refine hX _ ?_; conv => whnf)
          refine hX _ ?_; conv => whnf
          try simp (disch := omega) only [bg_w_id, Int.toNat_natCast, rw_land, sh_land, not_true_eq_false]
          refine s_mfigures (d + 1) n 1 (a + 1) L (by omega) (by omega) T h1 ht1 u3 _ (fun l e q => absurd (hn.symm.trans q) (by simp)) (fun _ h2 f1 => ?_)
          conv => whnf
          refine hX _ ?_; conv => whnf
          refine ⟨fun q149 => ?_, fun q149 => ?_⟩
          · exfalso
            (try simp (disch := omega) only [bg_w_id, Int.toNat_natCast, rw_land, sh_land, not_true_eq_false, kc0, kc1, kc2, kc3, kc4, kc5, kc6, kc7, kc8, kc9, kc10, kc11, kc12, kc13, kc14, kc15, kc16, kc17, kc18, kc19, kc20, kc21, kc22, kc23, kc24, kc25, kc26, kc27, kc28, kc29, kc30, kc31, kc32, kc33] at q149) <;> (omega)
          · try simp (disch := omega) only [bg_w_id, Int.toNat_natCast, rw_land, sh_land, not_true_eq_false, kc0, kc1, kc2, kc3, kc4, kc5, kc6, kc7, kc8, kc9, kc10, kc11, kc12, kc13, kc14, kc15, kc16, kc17, kc18, kc19, kc20, kc21, kc22, kc23, kc24, kc25, kc26, kc27, kc28, kc29, kc30, kc31, kc32, kc33] at q149
            refine hX _ ?_; conv => whnf
            refine hX _ ?_; conv => whnf
            exact ⟨by omega, hR0 h2 (frI_trans (frF_I ff) (frF_I f1)) (rgB_fr hg1 (f1.1 _ (by omega) (by omega)) (f1.1 _ (by omega) (by omega)))⟩
        try simp (disch := omega) only [bg_w_id, Int.toNat_natCast, rw_land, sh_land, not_true_eq_false, kc0, kc1, kc2, kc3, kc4, kc5, kc6, kc7, kc8, kc9, kc10, kc11, kc12, kc13, kc14, kc15, kc16, kc17, kc18, kc19, kc20, kc21, kc22, kc23, kc24, kc25, kc26, kc27, kc28, kc29, kc30, kc31, kc32, kc33] at n20_111
        conv => whnf
        refine ⟨fun q20_112 => ?_, fun n20_112 => ?_⟩
        · exfalso
          (try simp (disch := omega) only [bg_w_id, Int.toNat_natCast, rw_land, sh_land, not_true_eq_false, kc0, kc1, kc2, kc3, kc4, kc5, kc6, kc7, kc8, kc9, kc10, kc11, kc12, kc13, kc14, kc15, kc16, kc17, kc18, kc19, kc20, kc21, kc22, kc23, kc24, kc25, kc26, kc27, kc28, kc29, kc30, kc31, kc32, kc33] at q20_112) <;> omega
        try simp (disch := omega) only [bg_w_id, Int.toNat_natCast, rw_land, sh_land, not_true_eq_false, kc0, kc1, kc2, kc3, kc4, kc5, kc6, kc7, kc8, kc9, kc10, kc11, kc12, kc13, kc14, kc15, kc16, kc17, kc18, kc19, kc20, kc21, kc22, kc23, kc24, kc25, kc26, kc27, kc28, kc29, kc30, kc31, kc32, kc33] at n20_112
        conv => whnf
        refine ⟨fun q20_116 => ?_, fun n20_116 => ?_⟩
        · exfalso
          (try simp (disch := omega) only [bg_w_id, Int.toNat_natCast, rw_land, sh_land, not_true_eq_false, kc0, kc1, kc2, kc3, kc4, kc5, kc6, kc7, kc8, kc9, kc10, kc11, kc12, kc13, kc14, kc15, kc16, kc17, kc18, kc19, kc20, kc21, kc22, kc23, kc24, kc25, kc26, kc27, kc28, kc29, kc30, kc31, kc32, kc33] at q20_116) <;> omega
        try simp (disch := omega) only [bg_w_id, Int.toNat_natCast, rw_land, sh_land, not_true_eq_false, kc0, kc1, kc2, kc3, kc4, kc5, kc6, kc7, kc8, kc9, kc10, kc11, kc12, kc13, kc14, kc15, kc16, kc17, kc18, kc19, kc20, kc21, kc22, kc23, kc24, kc25, kc26, kc27, kc28, kc29, kc30, kc31, kc32, kc33] at n20_116
        conv => whnf
        refine ⟨fun q20_118 => ?_, fun n20_118 => ?_⟩
        · try simp (disch := omega) only [bg_w_id, Int.toNat_natCast, rw_land, sh_land, not_true_eq_false, kc0, kc1, kc2, kc3, kc4, kc5, kc6, kc7, kc8, kc9, kc10, kc11, kc12, kc13, kc14, kc15, kc16, kc17, kc18, kc19, kc20, kc21, kc22, kc23, kc24, kc25, kc26, kc27, kc28, kc29, kc30, kc31, kc32, kc33] at q20_118
          conv => whnf
          iterate 2 (refine hX _ ?_; conv => whnf)
          refine hX _ ?_; conv => whnf
          try simp (disch := omega) only [bg_w_id, Int.toNat_natCast, rw_land, sh_land, not_true_eq_false]
          refine s_mfigures (d + 1) n 1 (a + 1) L (by omega) (by omega) T h1 ht1 u3 _ (fun l e q => absurd (hn.symm.trans q) (by simp)) (fun _ h2 f1 => ?_)
          conv => whnf
          refine hX _ ?_; conv => whnf
          refine ⟨fun q124 => ?_, fun q124 => ?_⟩
          · exfalso
            (try simp (disch := omega) only [bg_w_id, Int.toNat_natCast, rw_land, sh_land, not_true_eq_false, kc0, kc1, kc2, kc3, kc4, kc5, kc6, kc7, kc8, kc9, kc10, kc11, kc12, kc13, kc14, kc15, kc16, kc17, kc18, kc19, kc20, kc21, kc22, kc23, kc24, kc25, kc26, kc27, kc28, kc29, kc30, kc31, kc32, kc33] at q124) <;> (omega)
          · try simp (disch := omega) only [bg_w_id, Int.toNat_natCast, rw_land, sh_land, not_true_eq_false, kc0, kc1, kc2, kc3, kc4, kc5, kc6, kc7, kc8, kc9, kc10, kc11, kc12, kc13, kc14, kc15, kc16, kc17, kc18, kc19, kc20, kc21, kc22, kc23, kc24, kc25, kc26, kc27, kc28, kc29, kc30, kc31, kc32, kc33] at q124
            refine hX _ ?_; conv => whnf
            refine hX _ ?_; conv => whnf
            exact ⟨by omega, hR0 h2 (frI_trans (frF_I ff) (frF_I f1)) (rgB_fr hg1 (f1.1 _ (by omega) (by omega)) (f1.1 _ (by omega) (by omega)))⟩
        try simp (disch := omega) only [bg_w_id, Int.toNat_natCast, rw_land, sh_land, not_true_eq_false, kc0, kc1, kc2, kc3, kc4, kc5, kc6, kc7, kc8, kc9, kc10, kc11, kc12, kc13, kc14, kc15, kc16, kc17, kc18, kc19, kc20, kc21, kc22, kc23, kc24, kc25, kc26, kc27, kc28, kc29, kc30, kc31, kc32, kc33] at n20_118
        conv => whnf
        refine hX _ ?_; conv => whnf
        refine hX _ ?_; conv => whnf
        exact ⟨by omega, hR0 h1 (frF_I ff) hg1⟩
      | some pr =>
        obtain ⟨l, e⟩ := pr
        rw [hn] at hR1 hR0
        have hR1 : ∀ (D' : LD), tk c 1 l D = some D' → ∀ h' : bg_G, frI h h' → h' 115 18 = e → holdM h' 3 D' → rgB h' 3 → Rt (some (.inl 1)) (bg_SH n, h') := fun D' q => hR1 D' e (by show (match tk c 1 l D with | some D' => some (D', e) | none => none) = _; rw [q])
        have hR0 : tk c 1 l D = none → ∀ h' : bg_G, frI h h' → rgB h' 3 → Rt (some (.inl 0)) (bg_SH n, h') := fun q => hR0 (by show (match tk c 1 l D with | some D' => some (D', e) | none => none) = _; rw [q])
        rw [et] at hR1 hR0
        have bm : ∀ (h2 : bg_G) (D' : LD) (j v : Int), 9 ≤ j → j ≤ 11 → holdM h2 3 D → D'.1 = D.1 → D'.2.1 = D.2.1 → (D'.2.2.1 = if j = 9 then v else D.2.2.1) → (D'.2.2.2.1 = if j = 10 then v else D.2.2.2.1) → (D'.2.2.2.2 = if j = 11 then v else D.2.2.2.2) → holdM (bg_up h2 121 j v) 3 D' := by
          intro h2 D' j v j1 j2 ⟨⟨y1, y2, y3, y4, y5⟩, z1, z2⟩ d1 d2 d3 d4 d5
          refine ⟨⟨?_, ?_, ?_, ?_, ?_⟩, fun p hp i hi => ?_, fun t ht i hi => ?_⟩
          · rw [bg_up_ne (by omega), d1]; exact y1
          · rw [bg_up_ne (by omega), d2]; exact y2
          · rw [bg_up_at, d3]
            by_cases x : j = 9
            · rw [if_pos (by omega), if_pos x]
            · rw [if_neg (by omega), if_neg x]; exact y3
          · rw [bg_up_at, d4]
            by_cases x : j = 10
            · rw [if_pos (by omega), if_pos x]
            · rw [if_neg (by omega), if_neg x]; exact y4
          · rw [bg_up_at, d5]
            by_cases x : j = 11
            · rw [if_pos (by omega), if_pos x]
            · rw [if_neg (by omega), if_neg x]; exact y5
          · rw [d1] at hp
            rw [bg_up_ne (by omega), d1]; exact z1 p hp i hi
          · rw [d2] at ht
            rw [bg_up_ne (by omega), d2]; exact z2 t ht i hi
        have gm : ∀ (h2 : bg_G) (j v : Int), rgB h2 3 → rgB (bg_up h2 121 j v) 3 := fun h2 j v q => rgB_fr q (bg_up_ne (by omega)) (bg_up_ne (by omega))
        refine hX _ ?_; conv => whnf
        refine ⟨fun q20_99 => ?_, fun n20_99 => ?_⟩
        · try simp (disch := omega) only [bg_w_id, Int.toNat_natCast, rw_land, sh_land, not_true_eq_false, kc0, kc1, kc2, kc3, kc4, kc5, kc6, kc7, kc8, kc9, kc10, kc11, kc12, kc13, kc14, kc15, kc16, kc17, kc18, kc19, kc20, kc21, kc22, kc23, kc24, kc25, kc26, kc27, kc28, kc29, kc30, kc31, kc32, kc33] at q20_99
          conv => whnf
          iterate 2 (refine hX _ ?_; conv => whnf)
          refine hX _ ?_; conv => whnf
          try simp (disch := omega) only [bg_w_id, Int.toNat_natCast, rw_land, sh_land, not_true_eq_false]
          refine s_mfigures (d + 1) n 1 (a + 1) L (by omega) (by omega) T h1 ht1 u3 _ (fun l' e' q h2 f1 f2 f3 => ?_) (fun q => absurd (hn.symm.trans q) (by simp))
          rw [hn, Option.some.injEq, Prod.mk.injEq] at q
          obtain ⟨rfl, rfl⟩ := q
          obtain ⟨o1, o2, o3, o4, o5⟩ := one l e h2 hn f1 f2 f3
          conv => whnf
          refine hX _ ?_; conv => whnf
          refine ⟨fun q87 => ?_, fun q87 => ?_⟩
          · exfalso
            (try simp (disch := omega) only [bg_w_id, Int.toNat_natCast, rw_land, sh_land, not_true_eq_false, kc0, kc1, kc2, kc3, kc4, kc5, kc6, kc7, kc8, kc9, kc10, kc11, kc12, kc13, kc14, kc15, kc16, kc17, kc18, kc19, kc20, kc21, kc22, kc23, kc24, kc25, kc26, kc27, kc28, kc29, kc30, kc31, kc32, kc33] at q87) <;> (omega)
          · try simp (disch := omega) only [bg_w_id, Int.toNat_natCast, rw_land, sh_land, not_true_eq_false, kc0, kc1, kc2, kc3, kc4, kc5, kc6, kc7, kc8, kc9, kc10, kc11, kc12, kc13, kc14, kc15, kc16, kc17, kc18, kc19, kc20, kc21, kc22, kc23, kc24, kc25, kc26, kc27, kc28, kc29, kc30, kc31, kc32, kc33] at q87
            iterate 3 (refine hX _ ?_; conv => whnf)
            refine hX _ ?_; conv => whnf
            try (simp (disch := omega) only [bg_w_id, Int.toNat_natCast, rw_land, sh_land, not_true_eq_false]; try conv => whnf)
            refine ⟨by first | omega | (simp (disch := omega) only [bg_w_id, Int.toNat_natCast, rw_land, sh_land, not_true_eq_false]; omega), ?_⟩
            refine hX _ ?_; conv => whnf
            refine hX _ ?_; conv => whnf
            refine ⟨fun q99 => ?_, fun q99 => ?_⟩
            · try simp (disch := omega) only [bg_w_id, Int.toNat_natCast, rw_land, sh_land, not_true_eq_false, kc0, kc1, kc2, kc3, kc4, kc5, kc6, kc7, kc8, kc9, kc10, kc11, kc12, kc13, kc14, kc15, kc16, kc17, kc18, kc19, kc20, kc21, kc22, kc23, kc24, kc25, kc26, kc27, kc28, kc29, kc30, kc31, kc32, kc33] at q99
              try rw [o2] at q99
              try rw [bg_w_id (by omega) (by omega)] at q99
              iterate 6 (refine hX _ ?_; conv => whnf)
              refine hX _ ?_; conv => whnf
              try (simp (disch := omega) only [bg_w_id, Int.toNat_natCast, rw_land, sh_land, not_true_eq_false]; try conv => whnf)
              refine ⟨by first | omega | (simp (disch := omega) only [bg_w_id, Int.toNat_natCast, rw_land, sh_land, not_true_eq_false]; omega), ?_⟩
              refine hX _ ?_; conv => whnf
              try (simp (disch := omega) only [bg_w_id, Int.toNat_natCast, rw_land, sh_land, not_true_eq_false]; try conv => whnf)
              refine ⟨by first | omega | (simp (disch := omega) only [bg_w_id, Int.toNat_natCast, rw_land, sh_land, not_true_eq_false]; omega), ?_⟩
              refine hX _ ?_; conv => whnf
              refine hX _ ?_; conv => whnf
              rw [o2]
              refine ⟨by omega, hR1 (D.1, D.2.1, gl l 0, D.2.2.2) (by rw [if_pos (by omega), if_pos (by omega)]) _ (upm h2 _ _ (by omega) o5) (by rw [bg_up_ne (by omega)]; exact f2) (bm h2 _ 9 _ (by omega) (by omega) o3 rfl rfl (by rw [if_pos rfl]) (by rw [if_neg (by omega)]) (by rw [if_neg (by omega)])) (gm h2 _ _ o4)⟩
            · try simp (disch := omega) only [bg_w_id, Int.toNat_natCast, rw_land, sh_land, not_true_eq_false, kc0, kc1, kc2, kc3, kc4, kc5, kc6, kc7, kc8, kc9, kc10, kc11, kc12, kc13, kc14, kc15, kc16, kc17, kc18, kc19, kc20, kc21, kc22, kc23, kc24, kc25, kc26, kc27, kc28, kc29, kc30, kc31, kc32, kc33] at q99
              try rw [o2] at q99
              try rw [bg_w_id (by omega) (by omega)] at q99
              refine hX _ ?_; conv => whnf
              refine hX _ ?_; conv => whnf
              exact ⟨by omega, hR0 (by rw [if_pos (by omega), if_neg (by omega)]) h2 o5 o4⟩
        try simp (disch := omega) only [bg_w_id, Int.toNat_natCast, rw_land, sh_land, not_true_eq_false, kc0, kc1, kc2, kc3, kc4, kc5, kc6, kc7, kc8, kc9, kc10, kc11, kc12, kc13, kc14, kc15, kc16, kc17, kc18, kc19, kc20, kc21, kc22, kc23, kc24, kc25, kc26, kc27, kc28, kc29, kc30, kc31, kc32, kc33] at n20_99
        conv => whnf
        refine ⟨fun q20_111 => ?_, fun n20_111 => ?_⟩
        · try simp (disch := omega) only [bg_w_id, Int.toNat_natCast, rw_land, sh_land, not_true_eq_false, kc0, kc1, kc2, kc3, kc4, kc5, kc6, kc7, kc8, kc9, kc10, kc11, kc12, kc13, kc14, kc15, kc16, kc17, kc18, kc19, kc20, kc21, kc22, kc23, kc24, kc25, kc26, kc27, kc28, kc29, kc30, kc31, kc32, kc33] at q20_111
          conv => whnf
          iterate 2 (refine hX _ ?_; conv => whnf)
          refine hX _ ?_; conv => whnf
          try simp (disch := omega) only [bg_w_id, Int.toNat_natCast, rw_land, sh_land, not_true_eq_false]
          refine s_mfigures (d + 1) n 1 (a + 1) L (by omega) (by omega) T h1 ht1 u3 _ (fun l' e' q h2 f1 f2 f3 => ?_) (fun q => absurd (hn.symm.trans q) (by simp))
          rw [hn, Option.some.injEq, Prod.mk.injEq] at q
          obtain ⟨rfl, rfl⟩ := q
          obtain ⟨o1, o2, o3, o4, o5⟩ := one l e h2 hn f1 f2 f3
          conv => whnf
          refine hX _ ?_; conv => whnf
          refine ⟨fun q149 => ?_, fun q149 => ?_⟩
          · try simp (disch := omega) only [bg_w_id, Int.toNat_natCast, rw_land, sh_land, not_true_eq_false, kc0, kc1, kc2, kc3, kc4, kc5, kc6, kc7, kc8, kc9, kc10, kc11, kc12, kc13, kc14, kc15, kc16, kc17, kc18, kc19, kc20, kc21, kc22, kc23, kc24, kc25, kc26, kc27, kc28, kc29, kc30, kc31, kc32, kc33] at q149
            iterate 6 (refine hX _ ?_; conv => whnf)
            refine hX _ ?_; conv => whnf
            try (simp (disch := omega) only [bg_w_id, Int.toNat_natCast, rw_land, sh_land, not_true_eq_false]; try conv => whnf)
            refine ⟨by first | omega | (simp (disch := omega) only [bg_w_id, Int.toNat_natCast, rw_land, sh_land, not_true_eq_false]; omega), ?_⟩
            refine hX _ ?_; conv => whnf
            try (simp (disch := omega) only [bg_w_id, Int.toNat_natCast, rw_land, sh_land, not_true_eq_false]; try conv => whnf)
            refine ⟨by first | omega | (simp (disch := omega) only [bg_w_id, Int.toNat_natCast, rw_land, sh_land, not_true_eq_false]; omega), ?_⟩
            refine hX _ ?_; conv => whnf
            refine hX _ ?_; conv => whnf
            rw [o2]
            refine ⟨by omega, hR1 (D.1, D.2.1, D.2.2.1, D.2.2.2.1, gl l 0) (by rw [if_neg (by omega), if_neg (by omega), if_pos (by omega)]) _ (upm h2 _ _ (by omega) o5) (by rw [bg_up_ne (by omega)]; exact f2) (bm h2 _ 11 _ (by omega) (by omega) o3 rfl rfl (by rw [if_neg (by omega)]) (by rw [if_neg (by omega)]) (by rw [if_pos rfl])) (gm h2 _ _ o4)⟩
          · exfalso
            (try simp (disch := omega) only [bg_w_id, Int.toNat_natCast, rw_land, sh_land, not_true_eq_false, kc0, kc1, kc2, kc3, kc4, kc5, kc6, kc7, kc8, kc9, kc10, kc11, kc12, kc13, kc14, kc15, kc16, kc17, kc18, kc19, kc20, kc21, kc22, kc23, kc24, kc25, kc26, kc27, kc28, kc29, kc30, kc31, kc32, kc33] at q149) <;> (omega)
        try simp (disch := omega) only [bg_w_id, Int.toNat_natCast, rw_land, sh_land, not_true_eq_false, kc0, kc1, kc2, kc3, kc4, kc5, kc6, kc7, kc8, kc9, kc10, kc11, kc12, kc13, kc14, kc15, kc16, kc17, kc18, kc19, kc20, kc21, kc22, kc23, kc24, kc25, kc26, kc27, kc28, kc29, kc30, kc31, kc32, kc33] at n20_111
        conv => whnf
        refine ⟨fun q20_112 => ?_, fun n20_112 => ?_⟩
        · exfalso
          (try simp (disch := omega) only [bg_w_id, Int.toNat_natCast, rw_land, sh_land, not_true_eq_false, kc0, kc1, kc2, kc3, kc4, kc5, kc6, kc7, kc8, kc9, kc10, kc11, kc12, kc13, kc14, kc15, kc16, kc17, kc18, kc19, kc20, kc21, kc22, kc23, kc24, kc25, kc26, kc27, kc28, kc29, kc30, kc31, kc32, kc33] at q20_112) <;> omega
        try simp (disch := omega) only [bg_w_id, Int.toNat_natCast, rw_land, sh_land, not_true_eq_false, kc0, kc1, kc2, kc3, kc4, kc5, kc6, kc7, kc8, kc9, kc10, kc11, kc12, kc13, kc14, kc15, kc16, kc17, kc18, kc19, kc20, kc21, kc22, kc23, kc24, kc25, kc26, kc27, kc28, kc29, kc30, kc31, kc32, kc33] at n20_112
        conv => whnf
        refine ⟨fun q20_116 => ?_, fun n20_116 => ?_⟩
        · exfalso
          (try simp (disch := omega) only [bg_w_id, Int.toNat_natCast, rw_land, sh_land, not_true_eq_false, kc0, kc1, kc2, kc3, kc4, kc5, kc6, kc7, kc8, kc9, kc10, kc11, kc12, kc13, kc14, kc15, kc16, kc17, kc18, kc19, kc20, kc21, kc22, kc23, kc24, kc25, kc26, kc27, kc28, kc29, kc30, kc31, kc32, kc33] at q20_116) <;> omega
        try simp (disch := omega) only [bg_w_id, Int.toNat_natCast, rw_land, sh_land, not_true_eq_false, kc0, kc1, kc2, kc3, kc4, kc5, kc6, kc7, kc8, kc9, kc10, kc11, kc12, kc13, kc14, kc15, kc16, kc17, kc18, kc19, kc20, kc21, kc22, kc23, kc24, kc25, kc26, kc27, kc28, kc29, kc30, kc31, kc32, kc33] at n20_116
        conv => whnf
        refine ⟨fun q20_118 => ?_, fun n20_118 => ?_⟩
        · try simp (disch := omega) only [bg_w_id, Int.toNat_natCast, rw_land, sh_land, not_true_eq_false, kc0, kc1, kc2, kc3, kc4, kc5, kc6, kc7, kc8, kc9, kc10, kc11, kc12, kc13, kc14, kc15, kc16, kc17, kc18, kc19, kc20, kc21, kc22, kc23, kc24, kc25, kc26, kc27, kc28, kc29, kc30, kc31, kc32, kc33] at q20_118
          conv => whnf
          iterate 2 (refine hX _ ?_; conv => whnf)
          refine hX _ ?_; conv => whnf
          try simp (disch := omega) only [bg_w_id, Int.toNat_natCast, rw_land, sh_land, not_true_eq_false]
          refine s_mfigures (d + 1) n 1 (a + 1) L (by omega) (by omega) T h1 ht1 u3 _ (fun l' e' q h2 f1 f2 f3 => ?_) (fun q => absurd (hn.symm.trans q) (by simp))
          rw [hn, Option.some.injEq, Prod.mk.injEq] at q
          obtain ⟨rfl, rfl⟩ := q
          obtain ⟨o1, o2, o3, o4, o5⟩ := one l e h2 hn f1 f2 f3
          conv => whnf
          refine hX _ ?_; conv => whnf
          refine ⟨fun q124 => ?_, fun q124 => ?_⟩
          · try simp (disch := omega) only [bg_w_id, Int.toNat_natCast, rw_land, sh_land, not_true_eq_false, kc0, kc1, kc2, kc3, kc4, kc5, kc6, kc7, kc8, kc9, kc10, kc11, kc12, kc13, kc14, kc15, kc16, kc17, kc18, kc19, kc20, kc21, kc22, kc23, kc24, kc25, kc26, kc27, kc28, kc29, kc30, kc31, kc32, kc33] at q124
            iterate 6 (refine hX _ ?_; conv => whnf)
            refine hX _ ?_; conv => whnf
            try (simp (disch := omega) only [bg_w_id, Int.toNat_natCast, rw_land, sh_land, not_true_eq_false]; try conv => whnf)
            refine ⟨by first | omega | (simp (disch := omega) only [bg_w_id, Int.toNat_natCast, rw_land, sh_land, not_true_eq_false]; omega), ?_⟩
            refine hX _ ?_; conv => whnf
            try (simp (disch := omega) only [bg_w_id, Int.toNat_natCast, rw_land, sh_land, not_true_eq_false]; try conv => whnf)
            refine ⟨by first | omega | (simp (disch := omega) only [bg_w_id, Int.toNat_natCast, rw_land, sh_land, not_true_eq_false]; omega), ?_⟩
            refine hX _ ?_; conv => whnf
            refine hX _ ?_; conv => whnf
            rw [o2]
            refine ⟨by omega, hR1 (D.1, D.2.1, D.2.2.1, gl l 0, D.2.2.2.2) (by rw [if_neg (by omega), if_pos (by omega)]) _ (upm h2 _ _ (by omega) o5) (by rw [bg_up_ne (by omega)]; exact f2) (bm h2 _ 10 _ (by omega) (by omega) o3 rfl rfl (by rw [if_neg (by omega)]) (by rw [if_pos rfl]) (by rw [if_neg (by omega)])) (gm h2 _ _ o4)⟩
          · exfalso
            (try simp (disch := omega) only [bg_w_id, Int.toNat_natCast, rw_land, sh_land, not_true_eq_false, kc0, kc1, kc2, kc3, kc4, kc5, kc6, kc7, kc8, kc9, kc10, kc11, kc12, kc13, kc14, kc15, kc16, kc17, kc18, kc19, kc20, kc21, kc22, kc23, kc24, kc25, kc26, kc27, kc28, kc29, kc30, kc31, kc32, kc33] at q124) <;> (omega)
        try simp (disch := omega) only [bg_w_id, Int.toNat_natCast, rw_land, sh_land, not_true_eq_false, kc0, kc1, kc2, kc3, kc4, kc5, kc6, kc7, kc8, kc9, kc10, kc11, kc12, kc13, kc14, kc15, kc16, kc17, kc18, kc19, kc20, kc21, kc22, kc23, kc24, kc25, kc26, kc27, kc28, kc29, kc30, kc31, kc32, kc33] at n20_118
        conv => whnf
        refine hX _ ?_; conv => whnf
        refine hX _ ?_; conv => whnf
        exact ⟨by omega, hR0 (by rw [if_neg (by omega), if_neg (by omega), if_neg (by omega)]) h1 (frF_I ff) hg1⟩
theorem s_mreadAll (d n L : Nat) (T : Int → Int) (h : bg_G) (ht : txM h T L) (hg : rgB h 3) (Rt : bg_R) (hR : ∀ h' : bg_G, frI h h' → rgB h' 3 → ((readF (byt T L) L 400 0 D0).1 = -4 → holdM h' 3 (readF (byt T L) L 400 0 D0).2) → Rt (some (.inl (readF (byt T L) L 400 0 D0).1)) (bg_SH n, h')) : bg_Ca bg_MS (d + 5) 124 [vR 115] (bg_SH n, h) Rt := by
  obtain ⟨t1, t2, t3⟩ := id ht
  refine bg_ca (cd := cd_X9_readAll) rfl rfl ?_
  intro X hX
  have l1 : ∀ i, i ≤ 400 → ∀ (a : Nat) (D : LD) (h' : bg_G) (j1 : Option bg_V), readF (byt T L) L (400 - i) a D = readF (byt T L) L 400 0 D0 → okD D → frI h h' → rgB h' 3 → holdM h' 3 D → h' 115 18 = (a : Int) → i ≤ a → a ≤ 400 → X (10, [oR 115, j1], [], (bg_SH n, h'), (0, 0)) := by
    refine lp_up 400 _ ?_ (fun i hi ih => ?_)
    · intro a D h' j1 er hD hf hg' hh h2 ha ha4
      have er : ((-4 : Int), D) = readF (byt T L) L 400 0 D0 := er
      rw [← er] at hR
      have e0 : h' 115 0 = (L : Int) := by rw [hf.2.1 0 (by omega)]; exact t1
      iterate 4 (refine hX _ ?_; conv => whnf)
      try simp only [kc0, kc1, kc2, kc3, kc4, kc5, kc6, kc7, kc8, kc9, kc10, kc11, kc12, kc13, kc14, kc15, kc16, kc17, kc18, kc19, kc20, kc21, kc22, kc23, kc24, kc25, kc26, kc27, kc28, kc29, kc30, kc31, kc32, kc33]
      refine hX _ ?_; conv => whnf
      refine ⟨fun q18 => ?_, fun q18 => ?_⟩
      · try simp (disch := omega) only [bg_w_id, Int.toNat_natCast, rw_land, sh_land, not_true_eq_false, h2, e0, kc0, kc1, kc2, kc3, kc4, kc5, kc6, kc7, kc8, kc9, kc10, kc11, kc12, kc13, kc14, kc15, kc16, kc17, kc18, kc19, kc20, kc21, kc22, kc23, kc24, kc25, kc26, kc27, kc28, kc29, kc30, kc31, kc32, kc33] at q18
        refine hX _ ?_; conv => whnf
        refine hX _ ?_; conv => whnf
        exact hR h' hf hg' (fun _ => hh)
      · exfalso
        (try simp (disch := omega) only [bg_w_id, Int.toNat_natCast, rw_land, sh_land, not_true_eq_false, h2, e0, kc0, kc1, kc2, kc3, kc4, kc5, kc6, kc7, kc8, kc9, kc10, kc11, kc12, kc13, kc14, kc15, kc16, kc17, kc18, kc19, kc20, kc21, kc22, kc23, kc24, kc25, kc26, kc27, kc28, kc29, kc30, kc31, kc32, kc33] at q18) <;> (omega)
    · intro a D h' j1 er hD hf hg' hh h2 ha ha4
      have e0 : h' 115 0 = (L : Int) := by rw [hf.2.1 0 (by omega)]; exact t1
      rw [show 400 - i = (400 - (i + 1)) + 1 by omega] at er
      rw [readF_s (f := 400 - (i + 1))] at er
      by_cases c : a < L
      · rw [if_pos c] at er
        have ht' : txM h' T L := ⟨e0, t2, fun i hi => by rw [hf.1 116 (by omega) (by omega) (by omega) (by omega) (by omega) (by omega) (by omega)]; exact t3 i hi⟩
        cases hi2 : itemF (byt T L) a D with
        | some pr =>
          obtain ⟨D', e⟩ := pr
          rw [hi2] at er
          have ie := item_e hi2
          iterate 4 (refine hX _ ?_; conv => whnf)
          try simp only [kc0, kc1, kc2, kc3, kc4, kc5, kc6, kc7, kc8, kc9, kc10, kc11, kc12, kc13, kc14, kc15, kc16, kc17, kc18, kc19, kc20, kc21, kc22, kc23, kc24, kc25, kc26, kc27, kc28, kc29, kc30, kc31, kc32, kc33]
          refine hX _ ?_; conv => whnf
          refine ⟨fun q18 => ?_, fun q18 => ?_⟩
          · exfalso
            (try simp (disch := omega) only [bg_w_id, Int.toNat_natCast, rw_land, sh_land, not_true_eq_false, h2, e0, kc0, kc1, kc2, kc3, kc4, kc5, kc6, kc7, kc8, kc9, kc10, kc11, kc12, kc13, kc14, kc15, kc16, kc17, kc18, kc19, kc20, kc21, kc22, kc23, kc24, kc25, kc26, kc27, kc28, kc29, kc30, kc31, kc32, kc33] at q18) <;> (omega)
          · try simp (disch := omega) only [bg_w_id, Int.toNat_natCast, rw_land, sh_land, not_true_eq_false, h2, e0, kc0, kc1, kc2, kc3, kc4, kc5, kc6, kc7, kc8, kc9, kc10, kc11, kc12, kc13, kc14, kc15, kc16, kc17, kc18, kc19, kc20, kc21, kc22, kc23, kc24, kc25, kc26, kc27, kc28, kc29, kc30, kc31, kc32, kc33] at q18
            iterate 4 (refine hX _ ?_; conv => whnf)
            try simp only [kc0, kc1, kc2, kc3, kc4, kc5, kc6, kc7, kc8, kc9, kc10, kc11, kc12, kc13, kc14, kc15, kc16, kc17, kc18, kc19, kc20, kc21, kc22, kc23, kc24, kc25, kc26, kc27, kc28, kc29, kc30, kc31, kc32, kc33]
            refine hX _ ?_; conv => whnf
            try simp (disch := omega) only [bg_w_id, Int.toNat_natCast, rw_land, sh_land, not_true_eq_false, h2, e0]
            refine s_mitem (d + 0) n a L c T D hD.1.1 hD.1.2.1 h' ht' h2 hh hg' _ (fun D2 e2 q h3 f1 f2 f3 f4 => ?_) (fun q => absurd (hi2.symm.trans q) (by simp))
            rw [hi2, Option.some.injEq, Prod.mk.injEq] at q
            obtain ⟨rfl, rfl⟩ := q
            conv => whnf
            refine hX _ ?_; conv => whnf
            refine ⟨fun q30 => ?_, fun q30 => ?_⟩
            · try simp (disch := omega) only [bg_w_id, Int.toNat_natCast, rw_land, sh_land, not_true_eq_false, h2, e0, kc0, kc1, kc2, kc3, kc4, kc5, kc6, kc7, kc8, kc9, kc10, kc11, kc12, kc13, kc14, kc15, kc16, kc17, kc18, kc19, kc20, kc21, kc22, kc23, kc24, kc25, kc26, kc27, kc28, kc29, kc30, kc31, kc32, kc33] at q30
              refine hX _ ?_; conv => whnf
              exact ih _ _ h3 _ er (ie.2.2 hD) (frI_trans hf f1) f4 f3 f2 (by omega) (by omega)
            · exfalso
              (try simp (disch := omega) only [bg_w_id, Int.toNat_natCast, rw_land, sh_land, not_true_eq_false, h2, e0, kc0, kc1, kc2, kc3, kc4, kc5, kc6, kc7, kc8, kc9, kc10, kc11, kc12, kc13, kc14, kc15, kc16, kc17, kc18, kc19, kc20, kc21, kc22, kc23, kc24, kc25, kc26, kc27, kc28, kc29, kc30, kc31, kc32, kc33] at q30) <;> (omega)
        | none =>
          rw [hi2] at er
          rw [← er] at hR
          iterate 4 (refine hX _ ?_; conv => whnf)
          try simp only [kc0, kc1, kc2, kc3, kc4, kc5, kc6, kc7, kc8, kc9, kc10, kc11, kc12, kc13, kc14, kc15, kc16, kc17, kc18, kc19, kc20, kc21, kc22, kc23, kc24, kc25, kc26, kc27, kc28, kc29, kc30, kc31, kc32, kc33]
          refine hX _ ?_; conv => whnf
          refine ⟨fun q18 => ?_, fun q18 => ?_⟩
          · exfalso
            (try simp (disch := omega) only [bg_w_id, Int.toNat_natCast, rw_land, sh_land, not_true_eq_false, h2, e0, kc0, kc1, kc2, kc3, kc4, kc5, kc6, kc7, kc8, kc9, kc10, kc11, kc12, kc13, kc14, kc15, kc16, kc17, kc18, kc19, kc20, kc21, kc22, kc23, kc24, kc25, kc26, kc27, kc28, kc29, kc30, kc31, kc32, kc33] at q18) <;> (omega)
          · try simp (disch := omega) only [bg_w_id, Int.toNat_natCast, rw_land, sh_land, not_true_eq_false, h2, e0, kc0, kc1, kc2, kc3, kc4, kc5, kc6, kc7, kc8, kc9, kc10, kc11, kc12, kc13, kc14, kc15, kc16, kc17, kc18, kc19, kc20, kc21, kc22, kc23, kc24, kc25, kc26, kc27, kc28, kc29, kc30, kc31, kc32, kc33] at q18
            iterate 4 (refine hX _ ?_; conv => whnf)
            try simp only [kc0, kc1, kc2, kc3, kc4, kc5, kc6, kc7, kc8, kc9, kc10, kc11, kc12, kc13, kc14, kc15, kc16, kc17, kc18, kc19, kc20, kc21, kc22, kc23, kc24, kc25, kc26, kc27, kc28, kc29, kc30, kc31, kc32, kc33]
            refine hX _ ?_; conv => whnf
            try simp (disch := omega) only [bg_w_id, Int.toNat_natCast, rw_land, sh_land, not_true_eq_false, h2, e0]
            refine s_mitem (d + 0) n a L c T D hD.1.1 hD.1.2.1 h' ht' h2 hh hg' _ (fun D2 e2 q => absurd (hi2.symm.trans q) (by simp)) (fun q h3 f1 f4 => ?_)
            conv => whnf
            refine hX _ ?_; conv => whnf
            refine ⟨fun q30 => ?_, fun q30 => ?_⟩
            · exfalso
              (try simp (disch := omega) only [bg_w_id, Int.toNat_natCast, rw_land, sh_land, not_true_eq_false, h2, e0, kc0, kc1, kc2, kc3, kc4, kc5, kc6, kc7, kc8, kc9, kc10, kc11, kc12, kc13, kc14, kc15, kc16, kc17, kc18, kc19, kc20, kc21, kc22, kc23, kc24, kc25, kc26, kc27, kc28, kc29, kc30, kc31, kc32, kc33] at q30) <;> (omega)
            · try simp (disch := omega) only [bg_w_id, Int.toNat_natCast, rw_land, sh_land, not_true_eq_false, h2, e0, kc0, kc1, kc2, kc3, kc4, kc5, kc6, kc7, kc8, kc9, kc10, kc11, kc12, kc13, kc14, kc15, kc16, kc17, kc18, kc19, kc20, kc21, kc22, kc23, kc24, kc25, kc26, kc27, kc28, kc29, kc30, kc31, kc32, kc33] at q30
              refine hX _ ?_; conv => whnf
              refine hX _ ?_; conv => whnf
              try rw [h2]
              exact hR h3 (frI_trans hf f1) f4 (fun x => absurd (show (a : Int) = -4 from x) (by omega))
      · rw [if_neg c] at er
        rw [← er] at hR
        iterate 4 (refine hX _ ?_; conv => whnf)
        try simp only [kc0, kc1, kc2, kc3, kc4, kc5, kc6, kc7, kc8, kc9, kc10, kc11, kc12, kc13, kc14, kc15, kc16, kc17, kc18, kc19, kc20, kc21, kc22, kc23, kc24, kc25, kc26, kc27, kc28, kc29, kc30, kc31, kc32, kc33]
        refine hX _ ?_; conv => whnf
        refine ⟨fun q18 => ?_, fun q18 => ?_⟩
        · try simp (disch := omega) only [bg_w_id, Int.toNat_natCast, rw_land, sh_land, not_true_eq_false, h2, e0, kc0, kc1, kc2, kc3, kc4, kc5, kc6, kc7, kc8, kc9, kc10, kc11, kc12, kc13, kc14, kc15, kc16, kc17, kc18, kc19, kc20, kc21, kc22, kc23, kc24, kc25, kc26, kc27, kc28, kc29, kc30, kc31, kc32, kc33] at q18
          refine hX _ ?_; conv => whnf
          refine hX _ ?_; conv => whnf
          exact hR h' hf hg' (fun _ => hh)
        · exfalso
          (try simp (disch := omega) only [bg_w_id, Int.toNat_natCast, rw_land, sh_land, not_true_eq_false, h2, e0, kc0, kc1, kc2, kc3, kc4, kc5, kc6, kc7, kc8, kc9, kc10, kc11, kc12, kc13, kc14, kc15, kc16, kc17, kc18, kc19, kc20, kc21, kc22, kc23, kc24, kc25, kc26, kc27, kc28, kc29, kc30, kc31, kc32, kc33] at q18) <;> (omega)
  iterate 2 (refine hX _ ?_; conv => whnf)
  refine hX _ ?_; conv => whnf
  try simp (disch := omega) only [bg_w_id, Int.toNat_natCast, rw_land, sh_land, not_true_eq_false]
  refine s_mnoLand (d + 3) n 3 (by omega) h _ (fun h1 f1 f6 f8 f0 => ?_)
  conv => whnf
  iterate 3 (refine hX _ ?_; conv => whnf)
  try simp only [kc0, kc1, kc2, kc3, kc4, kc5, kc6, kc7, kc8, kc9, kc10, kc11, kc12, kc13, kc14, kc15, kc16, kc17, kc18, kc19, kc20, kc21, kc22, kc23, kc24, kc25, kc26, kc27, kc28, kc29, kc30, kc31, kc32, kc33]
  refine l1 0 (by omega) 0 D0 _ _ rfl okD_0 ⟨fun k k1 k2 k3 k4 k5 k6 k7 => ?_, fun j hj => ?_, fun j hj => ?_, fun j hj => ?_, fun j hj => ?_, fun j hj => ?_, fun j hj => ?_⟩ ?_ ?_ (bg_up_self _ _ _ _) (Nat.zero_le _) (Nat.zero_le _)
  · rw [bg_up_ne k1]; exact f1 k k2 k4 k6
  · rw [bg_up_nj hj, f1 115 (by omega) (by omega) (by omega)]
  · rw [bg_up_ne (by omega), f6]; exact if_neg hj
  · rw [bg_up_ne (by omega), f8]; exact if_neg hj
  · rw [bg_up_ne (by omega), f1 118 (by omega) (by omega) (by omega)]
  · rw [bg_up_ne (by omega), f1 120 (by omega) (by omega) (by omega)]
  · rw [bg_up_ne (by omega), f0]
    show (if j = 3 * ((3 : Nat) : Int) then (0 : Int) else if j = 3 * ((3 : Nat) : Int) + 1 then 100 else if j = 3 * ((3 : Nat) : Int) + 2 then 0 else h 121 j) = h 121 j
    rw [if_neg (by omega), if_neg (by omega), if_neg (by omega)]
  · exact rgB_fr hg (by rw [bg_up_ne (by omega), f1 118 (by omega) (by omega) (by omega)]) (by rw [bg_up_ne (by omega), f1 120 (by omega) (by omega) (by omega)])
  · refine ⟨⟨?_, ?_, ?_, ?_, ?_⟩, fun p hp => absurd hp (by simp [D0]), fun t ht => absurd ht (by simp [D0])⟩
    · rw [bg_up_ne (by omega), f6]; rfl
    · rw [bg_up_ne (by omega), f8]; rfl
    · rw [bg_up_ne (by omega), f0]; rfl
    · rw [bg_up_ne (by omega), f0]; rfl
    · rw [bg_up_ne (by omega), f0]; rfl
