theorem inv_tx {h : bg_G} (hI : INV h) : ∃ L : Nat, txC h (h 116) L ∧ txM h (h 116) L := by
  obtain ⟨L, t1, t2, t3, t4⟩ := hI.2.2.2.1
  exact ⟨L, ⟨t1, t3, fun i hi => ⟨(t4 i hi).1, (t4 i hi).2⟩⟩, ⟨t2, t3, fun i hi => ⟨rfl, (t4 i hi).2⟩⟩⟩
theorem s_cfault (d n L : Nat) (T : Int → Int) (h : bg_G) (ht : txC h T L) (hm : limC h) (Rt : bg_R) (hR : ∀ h' : bg_G, frR h h' → Rt (some (.inl (readF (byt T L) L 400 0 D0).1)) (bg_SH n, h')) : bg_Ca bg_MS (d + 5) 80 [vR 2] (bg_SH n, h) Rt := by
  have rf := (readF_rg (T := T) (L := L) 400 0 D0 okD_0).2
  have hL := ht.2.1
  refine bg_ca (cd := cd_X8_fault) rfl rfl ?_
  intro X hX
  by_cases c : (readF (byt T L) L 400 0 D0).1 = -4
  · rw [c] at hR
    iterate 4 (refine hX _ ?_; conv => whnf)
    refine hX _ ?_; conv => whnf
    try simp (disch := omega) only [bg_w_id, Int.toNat_natCast, rw_land, sh_land, not_true_eq_false]
    refine s_readInto d n L T h ht hm _ (fun _ h' f _ => ?_) (fun x => absurd c x)
    conv => whnf
    iterate 2 (refine hX _ ?_; conv => whnf)
    refine hX _ ?_; conv => whnf
    refine ⟨fun q13 => ?_, fun q13 => ?_⟩
    · exfalso
      (try simp (disch := omega) only [bg_w_id, Int.toNat_natCast, rw_land, sh_land, not_true_eq_false, kc0, kc1, kc2, kc3, kc4, kc5, kc6, kc7, kc8, kc9, kc10, kc11, kc12, kc13, kc14, kc15, kc16, kc17, kc18, kc19, kc20, kc21, kc22, kc23, kc24, kc25, kc26, kc27, kc28, kc29, kc30, kc31, kc32, kc33] at q13) <;> (omega)
    · try simp (disch := omega) only [bg_w_id, Int.toNat_natCast, rw_land, sh_land, not_true_eq_false, kc0, kc1, kc2, kc3, kc4, kc5, kc6, kc7, kc8, kc9, kc10, kc11, kc12, kc13, kc14, kc15, kc16, kc17, kc18, kc19, kc20, kc21, kc22, kc23, kc24, kc25, kc26, kc27, kc28, kc29, kc30, kc31, kc32, kc33] at q13
      iterate 2 (refine hX _ ?_; conv => whnf)
      refine hX _ ?_; conv => whnf
      exact hR h' f
  · iterate 4 (refine hX _ ?_; conv => whnf)
    refine hX _ ?_; conv => whnf
    try simp (disch := omega) only [bg_w_id, Int.toNat_natCast, rw_land, sh_land, not_true_eq_false]
    refine s_readInto d n L T h ht hm _ (fun x => absurd x c) (fun _ h' f => ?_)
    conv => whnf
    iterate 2 (refine hX _ ?_; conv => whnf)
    refine hX _ ?_; conv => whnf
    refine ⟨fun q13 => ?_, fun q13 => ?_⟩
    · try simp (disch := omega) only [bg_w_id, Int.toNat_natCast, rw_land, sh_land, not_true_eq_false, kc0, kc1, kc2, kc3, kc4, kc5, kc6, kc7, kc8, kc9, kc10, kc11, kc12, kc13, kc14, kc15, kc16, kc17, kc18, kc19, kc20, kc21, kc22, kc23, kc24, kc25, kc26, kc27, kc28, kc29, kc30, kc31, kc32, kc33] at q13
      refine hX _ ?_; conv => whnf
      refine hX _ ?_; conv => whnf
      exact hR h' f
    · exfalso
      (try simp (disch := omega) only [bg_w_id, Int.toNat_natCast, rw_land, sh_land, not_true_eq_false, kc0, kc1, kc2, kc3, kc4, kc5, kc6, kc7, kc8, kc9, kc10, kc11, kc12, kc13, kc14, kc15, kc16, kc17, kc18, kc19, kc20, kc21, kc22, kc23, kc24, kc25, kc26, kc27, kc28, kc29, kc30, kc31, kc32, kc33] at q13) <;> (omega)
theorem s_mfault (d n L : Nat) (T : Int → Int) (h : bg_G) (ht : txM h T L) (hg : rgB h 3) (Rt : bg_R) (hR : ∀ h' : bg_G, frI h h' → rgB h' 3 → Rt (some (.inl (readF (byt T L) L 400 0 D0).1)) (bg_SH n, h')) : bg_Ca bg_MS (d + 6) 125 [vR 115] (bg_SH n, h) Rt := by
  refine bg_ca (cd := cd_X9_fault) rfl rfl ?_
  intro X hX
  refine hX _ ?_; conv => whnf
  refine hX _ ?_; conv => whnf
  try simp (disch := omega) only [bg_w_id, Int.toNat_natCast, rw_land, sh_land, not_true_eq_false]
  refine s_mreadAll d n L T h ht hg _ (fun h' f1 f2 _ => ?_)
  conv => whnf
  refine hX _ ?_; conv => whnf
  exact hR h' f1 f2
theorem frRI_soft {h h1 h2 : bg_G} (f : frR h h1) (g : frI h1 h2) : SOFT h h2 ∧ (∀ k, 46 ≤ k → k ≤ 52 → h2 k = h k) ∧ (∀ j, j ≠ 18 → h2 115 j = h 115 j) ∧ h2 126 = h 126 ∧ h2 127 = h 127 ∧ h2 128 = h 128 := by
  have e : ∀ k, k ≠ 3 → k ≠ 5 → (k < 6 ∨ 21 < k) → k ≠ 115 → k ≠ 117 → k ≠ 118 → k ≠ 119 → k ≠ 120 → k ≠ 121 → k ≠ 129 → h2 k = h k := fun k a1 a2 a3 a4 a5 a6 a7 a8 a9 a10 => by rw [g.1 k a4 a5 a6 a7 a8 a9 a10, f.1 k a1 a2 a3]
  have f1 : ∀ k, 21 < k → h1 k = h k := fun k hk => f.1 k (by omega) (by omega) (by omega)
  refine ⟨⟨fun k hk => by unfold scr at hk; exact e k (by omega) (by omega) (by omega) (by omega) (by omega) (by omega) (by omega) (by omega) (by omega) (by omega), fun j hj => by rw [g.1 3 (by omega) (by omega) (by omega) (by omega) (by omega) (by omega) (by omega), f.2 j hj], fun j _ _ _ j4 _ _ _ => by rw [g.2.1 j j4, f1 115 (by omega)], ⟨fun j hj => by rw [g.2.2.1 j hj, f1 117 (by omega)], fun j hj => by rw [g.2.2.2.1 j hj, f1 119 (by omega)], fun j hj => by rw [g.2.2.2.2.1 j hj, f1 118 (by omega)], fun j hj => by rw [g.2.2.2.2.2.1 j hj, f1 120 (by omega)], fun j hj => by rw [g.2.2.2.2.2.2 j hj, f1 121 (by omega)]⟩⟩, fun k a b => e k (by omega) (by omega) (by omega) (by omega) (by omega) (by omega) (by omega) (by omega) (by omega) (by omega), fun j hj => by rw [g.2.1 j hj, f1 115 (by omega)], e _ (by omega) (by omega) (by omega) (by omega) (by omega) (by omega) (by omega) (by omega) (by omega) (by omega), e _ (by omega) (by omega) (by omega) (by omega) (by omega) (by omega) (by omega) (by omega) (by omega) (by omega), e _ (by omega) (by omega) (by omega) (by omega) (by omega) (by omega) (by omega) (by omega) (by omega) (by omega)⟩
theorem INV_R {h h1 h2 : bg_G} (hI : INV h) (f : frR h h1) (g : frI h1 h2) (g3 : rgB h2 3) : INV h2 := by
  obtain ⟨a, b, c, d, e, i⟩ := frRI_soft f g
  exact INV_s1 hI a g3 b (c 12 (by omega)) (c 14 (by omega)) (c 15 (by omega)) d e i
theorem frR_21 {h h1 : bg_G} (f : frR h h1) : ∀ k, 21 < k → h1 k = h k := fun k hk => f.1 k (by omega) (by omega) (by omega)
theorem op_fault (n : Nat) (h : bg_G) (hI : INV h) : OPI n 5 80 [vR 2] 6 125 [vR 115] h := by
  intro d Rt k
  obtain ⟨L, tc, tm⟩ := inv_tx hI
  refine s_cfault d n L (h 116) h tc hI.2.2.2.2.2.2 Rt (fun h1 f => k _ _ (fun d2 R2 q => ?_))
  have e := frR_21 f
  refine s_mfault d2 n L (h 116) h1 ⟨by rw [e 115 (by omega)]; exact tm.1, tm.2.1, fun i hi => by rw [e 116 (by omega)]; exact tm.2.2 i hi⟩ (rgB_fr hI.2.2.1.2.2.2 (e _ (by omega)) (e _ (by omega))) R2 (fun h2 g g3 => q h2 (INV_R hI f g g3))
theorem s_clay (d n L : Nat) (T : Int → Int) (h : bg_G) (ht : txC h T L) (hm : limC h) (Rt : bg_R) (hR0 : (readF (byt T L) L 400 0 D0).1 ≠ -4 → ∀ h' : bg_G, frR h h' → Rt (some (.inl (-2))) (bg_SH n, h')) (hR1 : (readF (byt T L) L 400 0 D0).1 = -4 → ∀ h' : bg_G, (∀ k, k ≠ 3 → k ≠ 5 → (k < 6 ∨ 37 < k) → k ≠ 39 → k ≠ 41 → k ≠ 42 → k ≠ 43 → ¬ (44 ≤ k ∧ k ≤ 45) → k ≠ 46 → k ≠ 54 → k ≠ 55 → k ≠ 73 → k ≠ 74 → h' k = h k) → (∀ j, j ≠ 2 → h' 3 j = h 3 j) → holdC h' 22 (readF (byt T L) L 400 0 D0).2 → (∀ k : Nat, k < 4 → h' 54 k = -1 ∧ h' 55 k = -1 ∧ h' 74 k = 0) → (∀ k : Nat, k < 12 → h' 73 k = 0) → svC h' → tbC h' (wsC h') → h' 46 7 = 0 → h' 46 9 = 0 → Rt (some (.inl (readF (byt T L) L 400 0 D0).2.1.length)) (bg_SH n, h')) : bg_Ca bg_MS (d + 13) 81 [vR 2] (bg_SH n, h) Rt := by
  have rf := readF_rg (T := T) (L := L) 400 0 D0 okD_0
  have hL := ht.2.1
  refine bg_ca (cd := cd_X8_lay) rfl rfl ?_
  intro X hX
  by_cases c : (readF (byt T L) L 400 0 D0).1 = -4
  · have hR1 := hR1 c
    iterate 4 (refine hX _ ?_; conv => whnf)
    refine hX _ ?_; conv => whnf
    try simp (disch := omega) only [bg_w_id, Int.toNat_natCast, rw_land, sh_land, not_true_eq_false]
    refine s_readInto (d + 8) n L T h ht hm _ (fun _ h1 f1 f2 => ?_) (fun x => absurd c x)
    conv => whnf
    refine hX _ ?_; conv => whnf
    refine ⟨fun q11 => ?_, fun q11 => ?_⟩
    · try simp (disch := omega) only [bg_w_id, Int.toNat_natCast, rw_land, sh_land, not_true_eq_false, kc0, kc1, kc2, kc3, kc4, kc5, kc6, kc7, kc8, kc9, kc10, kc11, kc12, kc13, kc14, kc15, kc16, kc17, kc18, kc19, kc20, kc21, kc22, kc23, kc24, kc25, kc26, kc27, kc28, kc29, kc30, kc31, kc32, kc33] at q11
      iterate 4 (refine hX _ ?_; conv => whnf)
      refine hX _ ?_; conv => whnf
      try simp (disch := omega) only [bg_w_id, Int.toNat_natCast, rw_land, sh_land, not_true_eq_false]
      refine s_lcopy (d + 11) 22 6 (bg_SH n) (lnd_22 n) (lnd_6 n) (by omega) h1 _ (fun h2 g1 g2 => ?_)
      have hc2 := g2 _ f2
      conv => whnf
      iterate 2 (refine hX _ ?_; conv => whnf)
      refine hX _ ?_; conv => whnf
      try simp (disch := omega) only [bg_w_id, Int.toNat_natCast, rw_land, sh_land, not_true_eq_false]
      refine s_tclear (d + 10) 53 (bg_SH n) ⟨rfl, rfl, rfl⟩ h2 _ (fun h3 k1 k2 => ?_)
      conv => whnf
      iterate 3 (refine hX _ ?_; conv => whnf)
      refine hX _ ?_; conv => whnf
      try simp (disch := omega) only [bg_w_id, Int.toNat_natCast, rw_land, sh_land, not_true_eq_false]
      refine s_fill (d + 11) 74 4 (bg_SH n) _ _ rfl (by omega) _ (fun h4 m1 m2 => ?_)
      conv => whnf
      iterate 3 (refine hX _ ?_; conv => whnf)
      refine hX _ ?_; conv => whnf
      try simp (disch := omega) only [bg_w_id, Int.toNat_natCast, rw_land, sh_land, not_true_eq_false]
      refine s_fill (d + 11) 73 12 (bg_SH n) _ _ rfl (by omega) _ (fun h5 p1 p2 => ?_)
      have hc5 : holdC h5 22 (readF (byt T L) L 400 0 D0).2 := holdC_fr hc2 (fun k a b => by rw [p1 k (by omega), m1 k (by omega), k1 k (by omega) (by omega)])
      conv => whnf
      refine hX _ ?_; conv => whnf
      refine hX _ ?_; conv => whnf
      try simp (disch := omega) only [bg_w_id, Int.toNat_natCast, rw_land, sh_land, not_true_eq_false]
      refine s_survey d n h5 (okC_of rf.1 hc5) _ (fun h6 v1 v2 v3 v4 v5 => ?_)
      have hc6 : holdC h6 22 (readF (byt T L) L 400 0 D0).2 := holdC_fr hc5 (fun k a b => v1 k (by omega) (by omega) (by omega) (by omega) (by omega) (by omega))
      conv => whnf
      iterate 3 (refine hX _ ?_; conv => whnf)
      try simp only [kc0, kc1, kc2, kc3, kc4, kc5, kc6, kc7, kc8, kc9, kc10, kc11, kc12, kc13, kc14, kc15, kc16, kc17, kc18, kc19, kc20, kc21, kc22, kc23, kc24, kc25, kc26, kc27, kc28, kc29, kc30, kc31, kc32, kc33]
      refine hX _ ?_; conv => whnf
      have e3 : h6 22 3 = ((readF (byt T L) L 400 0 D0).2.1.length : Nat) := hc6.1.1
      have hR1 := hR1 h6 (fun k a1 a2 a3 a4 a5 a6 a7 a8 a9 a10 a11 a12 a13 => by rw [v1 k a4 a5 a6 a7 a8 a9, p1 k a12, m1 k a13, k1 k a10 a11, g1 k (by omega)]; exact f1.1 k a1 a2 (by omega)) (fun j hj => by rw [v1 3 (by omega) (by omega) (by omega) (by omega) (by omega) (by omega), p1 3 (by omega), m1 3 (by omega), k1 3 (by omega) (by omega), g1 3 (by omega)]; exact f1.2 j hj) hc6 (fun k hk => ⟨by rw [v1 54 (by omega) (by omega) (by omega) (by omega) (by omega) (by omega), p1 54 (by omega), m1 54 (by omega)]; exact (k2 k hk).1, by rw [v1 55 (by omega) (by omega) (by omega) (by omega) (by omega) (by omega), p1 55 (by omega), m1 55 (by omega)]; exact (k2 k hk).2, by rw [v1 74 (by omega) (by omega) (by omega) (by omega) (by omega) (by omega), p1 74 (by omega)]; exact m2 k (by omega) (by omega)⟩) (fun k hk => by rw [v1 73 (by omega) (by omega) (by omega) (by omega) (by omega) (by omega)]; exact p2 k (by omega) (by omega)) v2 v3 v4 v5
      rw [← e3] at hR1
      exact hR1
    · exfalso
      (try simp (disch := omega) only [bg_w_id, Int.toNat_natCast, rw_land, sh_land, not_true_eq_false, kc0, kc1, kc2, kc3, kc4, kc5, kc6, kc7, kc8, kc9, kc10, kc11, kc12, kc13, kc14, kc15, kc16, kc17, kc18, kc19, kc20, kc21, kc22, kc23, kc24, kc25, kc26, kc27, kc28, kc29, kc30, kc31, kc32, kc33] at q11) <;> (omega)
  · iterate 4 (refine hX _ ?_; conv => whnf)
    refine hX _ ?_; conv => whnf
    try simp (disch := omega) only [bg_w_id, Int.toNat_natCast, rw_land, sh_land, not_true_eq_false]
    refine s_readInto (d + 8) n L T h ht hm _ (fun x => absurd x c) (fun _ h1 f1 => ?_)
    conv => whnf
    refine hX _ ?_; conv => whnf
    refine ⟨fun q11 => ?_, fun q11 => ?_⟩
    · exfalso
      (try simp (disch := omega) only [bg_w_id, Int.toNat_natCast, rw_land, sh_land, not_true_eq_false, kc0, kc1, kc2, kc3, kc4, kc5, kc6, kc7, kc8, kc9, kc10, kc11, kc12, kc13, kc14, kc15, kc16, kc17, kc18, kc19, kc20, kc21, kc22, kc23, kc24, kc25, kc26, kc27, kc28, kc29, kc30, kc31, kc32, kc33] at q11) <;> (omega)
    · try simp (disch := omega) only [bg_w_id, Int.toNat_natCast, rw_land, sh_land, not_true_eq_false, kc0, kc1, kc2, kc3, kc4, kc5, kc6, kc7, kc8, kc9, kc10, kc11, kc12, kc13, kc14, kc15, kc16, kc17, kc18, kc19, kc20, kc21, kc22, kc23, kc24, kc25, kc26, kc27, kc28, kc29, kc30, kc31, kc32, kc33] at q11
      refine hX _ ?_; conv => whnf
      refine hX _ ?_; conv => whnf
      exact hR0 c h1 f1
theorem s_mlay (d n L : Nat) (T : Int → Int) (h : bg_G) (ht : txM h T L) (hg : rgB h 3) (Rt : bg_R) (hR0 : (readF (byt T L) L 400 0 D0).1 ≠ -4 → ∀ h' : bg_G, frI h h' → rgB h' 3 → Rt (some (.inl (-2))) (bg_SH n, h')) (hR1 : (readF (byt T L) L 400 0 D0).1 = -4 → ∀ h1 h' : bg_G, frI h h1 → rgB h1 3 → holdM h1 3 (readF (byt T L) L 400 0 D0).2 → (∀ k, k ≠ 115 → k ≠ 117 → k ≠ 118 → k ≠ 119 → k ≠ 120 → k ≠ 121 → k ≠ 122 → k ≠ 123 → k ≠ 124 → k ≠ 125 → h' k = h1 k) → (∀ j, j ≠ 12 → j ≠ 14 → h' 115 j = h1 115 j) → h' 115 12 = 0 → h' 115 14 = 0 → h' 117 = cp 1 3 0 1 (h1 117) → h' 118 = cp 84 3 0 84 (h1 118) → h' 119 = cp 1 3 0 1 (h1 119) → h' 120 = cp 9 3 0 9 (h1 120) → h' 121 = cp 3 3 0 3 (h1 121) → (∀ j : Int, h' 122 j = if 0 ≤ j ∧ j < 4 then -1 else h1 122 j) → (∀ j : Int, h' 123 j = if 0 ≤ j ∧ j < 4 then -1 else h1 123 j) → (∀ j : Int, h' 124 j = if 0 ≤ j ∧ j < 12 then 0 else h1 124 j) → (∀ j : Int, h' 125 j = if 0 ≤ j ∧ j < 4 then 0 else h1 125 j) → Rt (some (.inl (h' 117 0))) (bg_SH n, h')) : bg_Ca bg_MS (d + 6) 127 [vR 115] (bg_SH n, h) Rt := by
  have rf := (readF_rg (T := T) (L := L) 400 0 D0 okD_0).2
  have hL := ht.2.1
  refine bg_ca (cd := cd_X9_lay) rfl rfl ?_
  intro X hX
  by_cases c : (readF (byt T L) L 400 0 D0).1 = -4
  · refine hX _ ?_; conv => whnf
    refine hX _ ?_; conv => whnf
    try simp (disch := omega) only [bg_w_id, Int.toNat_natCast, rw_land, sh_land, not_true_eq_false]
    refine s_mreadAll d n L T h ht hg _ (fun h1 f1 f2 f3 => ?_)
    conv => whnf
    refine hX _ ?_; conv => whnf
    refine hX _ ?_; conv => whnf
    refine ⟨fun q6 => ?_, fun q6 => ?_⟩
    · try simp (disch := omega) only [bg_w_id, Int.toNat_natCast, rw_land, sh_land, not_true_eq_false, kc0, kc1, kc2, kc3, kc4, kc5, kc6, kc7, kc8, kc9, kc10, kc11, kc12, kc13, kc14, kc15, kc16, kc17, kc18, kc19, kc20, kc21, kc22, kc23, kc24, kc25, kc26, kc27, kc28, kc29, kc30, kc31, kc32, kc33] at q6
      iterate 3 (refine hX _ ?_; conv => whnf)
      refine hX _ ?_; conv => whnf
      try simp (disch := omega) only [bg_w_id, Int.toNat_natCast, rw_land, sh_land, not_true_eq_false]
      refine s_mcopyLand (d + 4) n 3 0 (by omega) (by omega) (by omega) h1 _ (fun h2 g1 g2 g3 g4 g5 g6 g7 g8 g9 => ?_)
      conv => whnf
      refine hX _ ?_; conv => whnf
      refine hX _ ?_; conv => whnf
      try simp (disch := omega) only [bg_w_id, Int.toNat_natCast, rw_land, sh_land, not_true_eq_false]
      refine s_mnoPlayers (d + 4) n h2 _ (fun h3 k1 k2 k3 k4 k5 => ?_)
      conv => whnf
      iterate 3 (refine hX _ ?_; conv => whnf)
      refine hX _ ?_; conv => whnf
      try (simp (disch := omega) only [bg_w_id, Int.toNat_natCast, rw_land, sh_land, not_true_eq_false]; try conv => whnf)
      refine ⟨by first | omega | (simp (disch := omega) only [bg_w_id, Int.toNat_natCast, rw_land, sh_land, not_true_eq_false]; omega), ?_⟩
      refine hX _ ?_; conv => whnf
      have e : ∀ k, k ≠ 122 → k ≠ 123 → k ≠ 124 → k ≠ 125 → h3 k = h2 k := k1
      exact hR1 c h1 h3 f1 f2 (f3 c) (fun k a1 a2 a3 a4 a5 a6 a7 a8 a9 a10 => by rw [e k a7 a8 a9 a10, g1 k a1 a2 a3 a4 a5 a6]) (fun j j1 j2 => by rw [e 115 (by omega) (by omega) (by omega) (by omega), g2 j j1 j2]) (by rw [e 115 (by omega) (by omega) (by omega) (by omega), g3]) (by rw [e 115 (by omega) (by omega) (by omega) (by omega), g4]) (by rw [e 117 (by omega) (by omega) (by omega) (by omega), g5]) (by rw [e 118 (by omega) (by omega) (by omega) (by omega), g6]) (by rw [e 119 (by omega) (by omega) (by omega) (by omega), g7]) (by rw [e 120 (by omega) (by omega) (by omega) (by omega), g8]) (by rw [e 121 (by omega) (by omega) (by omega) (by omega), g9]) (fun j => by rw [k2, g1 122 (by omega) (by omega) (by omega) (by omega) (by omega) (by omega)]) (fun j => by rw [k3, g1 123 (by omega) (by omega) (by omega) (by omega) (by omega) (by omega)]) (fun j => by rw [k4, g1 124 (by omega) (by omega) (by omega) (by omega) (by omega) (by omega)]) (fun j => by rw [k5, g1 125 (by omega) (by omega) (by omega) (by omega) (by omega) (by omega)])
    · exfalso
      (try simp (disch := omega) only [bg_w_id, Int.toNat_natCast, rw_land, sh_land, not_true_eq_false, kc0, kc1, kc2, kc3, kc4, kc5, kc6, kc7, kc8, kc9, kc10, kc11, kc12, kc13, kc14, kc15, kc16, kc17, kc18, kc19, kc20, kc21, kc22, kc23, kc24, kc25, kc26, kc27, kc28, kc29, kc30, kc31, kc32, kc33] at q6) <;> (omega)
  · refine hX _ ?_; conv => whnf
    refine hX _ ?_; conv => whnf
    try simp (disch := omega) only [bg_w_id, Int.toNat_natCast, rw_land, sh_land, not_true_eq_false]
    refine s_mreadAll d n L T h ht hg _ (fun h1 f1 f2 f3 => ?_)
    conv => whnf
    refine hX _ ?_; conv => whnf
    refine hX _ ?_; conv => whnf
    refine ⟨fun q6 => ?_, fun q6 => ?_⟩
    · exfalso
      (try simp (disch := omega) only [bg_w_id, Int.toNat_natCast, rw_land, sh_land, not_true_eq_false, kc0, kc1, kc2, kc3, kc4, kc5, kc6, kc7, kc8, kc9, kc10, kc11, kc12, kc13, kc14, kc15, kc16, kc17, kc18, kc19, kc20, kc21, kc22, kc23, kc24, kc25, kc26, kc27, kc28, kc29, kc30, kc31, kc32, kc33] at q6) <;> (omega)
    · try simp (disch := omega) only [bg_w_id, Int.toNat_natCast, rw_land, sh_land, not_true_eq_false, kc0, kc1, kc2, kc3, kc4, kc5, kc6, kc7, kc8, kc9, kc10, kc11, kc12, kc13, kc14, kc15, kc16, kc17, kc18, kc19, kc20, kc21, kc22, kc23, kc24, kc25, kc26, kc27, kc28, kc29, kc30, kc31, kc32, kc33] at q6
      refine hX _ ?_; conv => whnf
      refine hX _ ?_; conv => whnf
      exact hR0 c h1 f1 f2
theorem cp_in {w a b : Nat} {f : Int → Int} {j : Int} (h0 : 0 ≤ j) (h1 : j < w) : cp w a b w f ((w * b : Nat) + j) = f ((w * a : Nat) + j) := by
  unfold cp
  rw [if_pos (by omega)]
  congr 1
  omega
theorem cp_out {w a b c : Nat} {f : Int → Int} {j : Int} (hc : c ≠ b) (h0 : (w * c : Nat) ≤ j) (h1 : j < (w * c : Nat) + (w : Int)) (hw : w * c + w ≤ w * b ∨ w * b + w ≤ w * c) : cp w a b w f j = f j := by
  unfold cp
  rw [if_neg (by omega)]
theorem holdM_cp {h h' : bg_G} {a b : Nat} {D : LD} (hD : okD D) (e6 : h' 117 = cp 1 a b 1 (h 117)) (e7 : h' 118 = cp 84 a b 84 (h 118)) (e8 : h' 119 = cp 1 a b 1 (h 119)) (e9 : h' 120 = cp 9 a b 9 (h 120)) (e0 : h' 121 = cp 3 a b 3 (h 121)) (hh : holdM h a D) : holdM h' b D := by
  obtain ⟨⟨a1, a2, a3, a4, a5⟩, x, y⟩ := hh
  have := hD.1
  refine ⟨⟨?_, ?_, ?_, ?_, ?_⟩, fun p hp i hi => ?_, fun t ht i hi => ?_⟩
  · rw [e6, show (b : Int) = ((1 * b : Nat) : Int) + 0 by omega, cp_in (by omega) (by omega), ← a1]; congr 1 <;> omega
  · rw [e8, show (b : Int) = ((1 * b : Nat) : Int) + 0 by omega, cp_in (by omega) (by omega), ← a2]; congr 1 <;> omega
  · rw [e0, show 3 * (b : Int) = ((3 * b : Nat) : Int) + 0 by omega, cp_in (by omega) (by omega), ← a3]; congr 1 <;> omega
  · rw [e0, show 3 * (b : Int) + 1 = ((3 * b : Nat) : Int) + 1 by omega, cp_in (by omega) (by omega), ← a4]; congr 1
  · rw [e0, show 3 * (b : Int) + 2 = ((3 * b : Nat) : Int) + 2 by omega, cp_in (by omega) (by omega), ← a5]; congr 1
  · rw [e7, show 84 * (b : Int) + 7 * (p : Int) + (i : Int) = ((84 * b : Nat) : Int) + (7 * (p : Int) + i) by omega, cp_in (by omega) (by omega), ← x p hp i hi]; congr 1 <;> omega
  · rw [e9, show 9 * (b : Int) + 3 * (t : Int) + (i : Int) = ((9 * b : Nat) : Int) + (3 * (t : Int) + i) by omega, cp_in (by omega) (by omega), ← y t ht i hi]; congr 1 <;> omega
theorem rgB_cp {h h' : bg_G} {a b : Nat} (e7 : h' 118 = cp 84 a b 84 (h 118)) (e9 : h' 120 = cp 9 a b 9 (h 120)) (hh : rgB h a) : rgB h' b := by
  refine ⟨fun p hp i hi => ?_, fun t ht => ?_⟩
  · rw [e7, show 84 * (b : Int) + 7 * (p : Int) + (i : Int) = ((84 * b : Nat) : Int) + (7 * (p : Int) + i) by omega, cp_in (by omega) (by omega), show ((84 * a : Nat) : Int) + (7 * (p : Int) + i) = 84 * (a : Int) + 7 * p + i by omega]
    exact hh.1 p hp i hi
  · rw [e9, show 9 * (b : Int) + 3 * (t : Int) + 1 = ((9 * b : Nat) : Int) + (3 * (t : Int) + 1) by omega, show 9 * (b : Int) + 3 * (t : Int) + 2 = ((9 * b : Nat) : Int) + (3 * (t : Int) + 2) by omega, show 9 * (b : Int) + 3 * (t : Int) = ((9 * b : Nat) : Int) + 3 * (t : Int) by omega, cp_in (by omega) (by omega), cp_in (by omega) (by omega), cp_in (by omega) (by omega), show ((9 * a : Nat) : Int) + (3 * (t : Int) + 1) = 9 * (a : Int) + 3 * t + 1 by omega, show ((9 * a : Nat) : Int) + (3 * (t : Int) + 2) = 9 * (a : Int) + 3 * t + 2 by omega, show ((9 * a : Nat) : Int) + 3 * (t : Int) = 9 * (a : Int) + 3 * t by omega]
    exact hh.2 t ht
theorem holdM_co {h h' : bg_G} {a b c : Nat} {D : LD} (hc : c < b ∨ b < c) (hD : okD D) (e6 : h' 117 = cp 1 a b 1 (h 117)) (e7 : h' 118 = cp 84 a b 84 (h 118)) (e8 : h' 119 = cp 1 a b 1 (h 119)) (e9 : h' 120 = cp 9 a b 9 (h 120)) (e0 : h' 121 = cp 3 a b 3 (h 121)) (hh : holdM h c D) : holdM h' c D := by
  obtain ⟨⟨a1, a2, a3, a4, a5⟩, x, y⟩ := hh
  have := hD.1
  refine ⟨⟨?_, ?_, ?_, ?_, ?_⟩, fun p hp i hi => ?_, fun t ht i hi => ?_⟩
  · rw [e6, cp_out (c := c) (by omega) (by omega) (by omega) (by omega)]; exact a1
  · rw [e8, cp_out (c := c) (by omega) (by omega) (by omega) (by omega)]; exact a2
  · rw [e0, cp_out (c := c) (by omega) (by omega) (by omega) (by omega)]; exact a3
  · rw [e0, cp_out (c := c) (by omega) (by omega) (by omega) (by omega)]; exact a4
  · rw [e0, cp_out (c := c) (by omega) (by omega) (by omega) (by omega)]; exact a5
  · rw [e7, cp_out (c := c) (by omega) (by omega) (by omega) (by omega)]; exact x p hp i hi
  · rw [e9, cp_out (c := c) (by omega) (by omega) (by omega) (by omega)]; exact y t ht i hi
theorem rgB_co {h h' : bg_G} {a b c : Nat} (hc : c < b ∨ b < c) (e7 : h' 118 = cp 84 a b 84 (h 118)) (e9 : h' 120 = cp 9 a b 9 (h 120)) (hh : rgB h c) : rgB h' c := by
  refine ⟨fun p hp i hi => ?_, fun t ht => ?_⟩
  · rw [e7, cp_out (c := c) (by omega) (by omega) (by omega) (by omega)]; exact hh.1 p hp i hi
  · rw [e9, cp_out (c := c) (by omega) (by omega) (by omega) (by omega), cp_out (c := c) (by omega) (by omega) (by omega) (by omega), cp_out (c := c) (by omega) (by omega) (by omega) (by omega)]; exact hh.2 t ht
theorem ws_C {h : bg_G} {D : LD} (hD : okD D) (hh : holdC h 22 D) : wsC h = wsD D := by
  obtain ⟨⟨a1, a2, a3, a4, a5⟩, b, c⟩ := hh
  have hd := hD.1.1
  unfold wsC wsD wsG
  have b' : ∀ p : Nat, p < 12 → ∀ i : Nat, i < 7 → h (24 + p) i = gr D.1 p i := b
  rw [a1, Int.toNat_natCast, wf_congr (A := fun p => h (24 + p) 0) (B := fun p => h (24 + p) 1) (A' := fun p => gr D.1 p 0) (B' := fun p => gr D.1 p 1) (fun p hp => b' p (by omega) 0 (by omega)) (fun p hp => b' p (by omega) 1 (by omega))]
