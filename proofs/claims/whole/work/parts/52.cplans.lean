/-! weighed, leastPay of the class -/
theorem mh_most {h : bg_G} {m s : Nat} (hs : aP h m s) : mostM h s = mh h m := by
  unfold mostM mh
  rw [hs.2.2]
theorem aP_held {h : bg_G} (hr : REL h) {s : Nat} (hs : okN h s) (hc : costM h s ≤ h 121 0) : ∃ m : Nat, m < 2 ^ (h 117 0).toNat ∧ aP h m s := by
  obtain ⟨m, x1, x2⟩ := heldM_rg hr.2.1 hr.2.2.1 (by have := hs.2; omega) hs.1
  exact ⟨m, x1, hs, hc, x2⟩
/-- the least over what is held by the first q -/
def lsI (h : bg_G) (v : Nat → Int) (fp fs : Int) (q : Nat) : Prop := (fp = -1 ∧ ∀ m s, m < q → ¬ aP h m s) ∨ (∃ s m, m < q ∧ aP h m s ∧ fp = s ∧ fs = v s ∧ ∀ m' s', m' < q → aP h m' s' → v s < v s' ∨ (v s = v s' ∧ s ≤ s'))
theorem lsI_0 (h : bg_G) (v : Nat → Int) (x : Int) : lsI h v (-1) x 0 := Or.inl ⟨rfl, fun m s hm => absurd hm (by omega)⟩
theorem lsI_no {h : bg_G} {v : Nat → Int} {fp fs : Int} {q : Nat} (hi : lsI h v fp fs q) (hn : ∀ s, ¬ aP h q s) : lsI h v fp fs (q + 1) := by
  rcases hi with ⟨a, b⟩ | ⟨s, m, a, b, c, d, e⟩
  · refine Or.inl ⟨a, fun m s hm hp => ?_⟩
    by_cases em : m = q
    · subst em; exact hn s hp
    · exact b m s (by omega) hp
  · refine Or.inr ⟨s, m, by omega, b, c, d, fun m' s' hm hp => ?_⟩
    by_cases em : m' = q
    · subst em; exact absurd hp (hn s')
    · exact e m' s' (by omega) hp
theorem lsI_new {h : bg_G} {v : Nat → Int} {fp fs : Int} {q s : Nat} (hi : lsI h v fp fs q) (hs : aP h q s) (hm : ∀ s', aP h q s' → s ≤ s') (hv : ∀ s', aP h q s' → v s' = v s) (hc : fp = -1 ∨ v s < fs ∨ (v s = fs ∧ (s : Int) < fp)) : lsI h v s (v s) (q + 1) := by
  refine Or.inr ⟨s, q, by omega, hs, rfl, rfl, fun m' s' hm' hp => ?_⟩
  by_cases em : m' = q
  · subst em
    exact Or.inr ⟨(hv s' hp).symm, hm s' hp⟩
  · rcases hi with ⟨a, b⟩ | ⟨s1, m1, a, b, c, d, e⟩
    · exact absurd hp (b m' s' (by omega))
    · have := e m' s' (by omega) hp
      omega
theorem lsI_old {h : bg_G} {v : Nat → Int} {fp fs : Int} {q s : Nat} (hi : lsI h v fp fs q) (hs : aP h q s) (hm : ∀ s', aP h q s' → s ≤ s') (hv : ∀ s', aP h q s' → v s' = v s) (h1 : fp ≠ -1) (hc : fs < v s ∨ (v s = fs ∧ fp ≤ (s : Int))) : lsI h v fp fs (q + 1) := by
  rcases hi with ⟨a, b⟩ | ⟨s1, m1, a, b, c, d, e⟩
  · exact absurd a h1
  · refine Or.inr ⟨s1, m1, by omega, b, c, d, fun m' s' hm' hp => ?_⟩
    by_cases em : m' = q
    · subst em
      have := hv s' hp
      have := hm s' hp
      omega
    · exact e m' s' (by omega) hp
theorem lsI_end {h : bg_G} (hr : REL h) {v : Nat → Int} {fp fs : Int} (hi : lsI h v fp fs (2 ^ (h 117 0).toNat)) : fp = ((bsF (fun s => okS (h 117 0) (h 119 0) (s : Int) ∧ costM h s ≤ h 121 0) v (setsM h) : Nat) : Int) ∧ fs = v (bsF (fun s => okS (h 117 0) (h 119 0) (s : Int) ∧ costM h s ≤ h 121 0) v (setsM h)) := by
  have ho := hr.2.1
  have hc := ho.1.2.2.1.1
  rcases hi with ⟨a, b⟩ | ⟨s, m, a, b, c, d, e⟩
  · exfalso
    obtain ⟨m, x1, x2⟩ := aP_held hr (okN_0 ho) (by rw [costM_0]; exact hc)
    exact b m 0 x1 x2
  · have := bs_is ho hc (v := v) b.1 b.2.1 (fun s' h1 h2 => by
      obtain ⟨m', x1, x2⟩ := aP_held hr h1 h2
      exact e m' s' x1 x2)
    rw [this]
    exact ⟨c, d⟩
theorem wg_m {h : bg_G} (hr : REL h) {a b : Int} {m s : Nat} (hm : m < 2 ^ (h 117 0).toNat) (hs : aP h m s) : wgM h a b s = a * mh h m + b * vS (fun p => h (24 + p) 6) m := by
  unfold wgM
  rw [mh_most hs, hs.2.2, ← wait_eq hr hm]
  rfl
theorem s_plweigh (d n : Nat) (a b : Int) (ha : 0 ≤ a ∧ a ≤ 99) (hb : 0 ≤ b ∧ b ≤ 99) (h0 h : bg_G) (hr : REL h0) (hf : fr45 h0 h) (hp : PLN h0 h) (Rt : bg_R) (hR : ∀ h' : bg_G, fr45 h h' → (∀ j, j ≠ 10 → j ≠ 11 → h' 46 j = h 46 j) → (∀ k, 46 < k → k ≠ 49 → k ≠ 50 → h' k = h k) → h' 46 10 = ((wdM h0 a b (setsM h0) : Nat) : Int) → h' 46 11 = wgM h0 a b (wdM h0 a b (setsM h0) : Nat) → Rt none (bg_SH n, h')) : bg_Ca bg_MS (d + 3) 57 [vR 46, vR 22, vI a, vI b] (bg_SH n, h) Rt := by
  have ho := hr.2.1
  have hn := ho.1
  obtain ⟨N, eN⟩ : ∃ N : Nat, N = (h0 117 0).toNat := ⟨_, rfl⟩
  have hM : 2 ^ N ≤ 4096 := (show 2 ^ N ≤ 2 ^ 12 from Nat.pow_le_pow_right (by decide) (by omega))
  obtain ⟨p1, p2, p3, p4⟩ := hp
  rw [← eN] at p1 p2
  refine bg_ca (cd := cd_X4_weigh) rfl rfl ?_
  intro X hX
  have l1 : ∀ h1 : bg_G, (∀ k, k ≠ 49 → k ≠ 50 → h1 k = h k) → (∀ m : Nat, m < 2 ^ N → h1 49 m = vS (fun p => h0 (24 + p) 6) m) → ∀ q : Nat, q ≤ 2 ^ N → ∀ (h' : bg_G) (j5 j6 : Option bg_V), (∀ k, k ≠ 46 → h' k = h1 k) → (∀ j, j ≠ 10 → j ≠ 11 → h' 46 j = h1 46 j) → lsI h0 (fun s => wgM h0 a b s) (h' 46 10) (h' 46 11) q → (h' 46 10 = -1 → h' 46 11 = 2147483647) → -1 ≤ h' 46 10 → h' 46 10 ≤ 32768 → 0 ≤ h' 46 11 → h' 46 11 ≤ 2147483647 → X (21, [oR 46, oR 22, oI a, oI b, oI (q : Int), j5, j6], [], (bg_SH n, h'), (0, 0)) := by
    intro h1 g1 g2
    refine lp_up (2 ^ N) _ ?_ (fun q hq ih => ?_)
    · intro h' j5 j6 f1 f2 f3 f4 f5 f6 f7 f8
      have e6 : h' 46 6 = ((2 ^ N : Nat) : Int) := by rw [f2 6 (by omega) (by omega), g1 46 (by omega) (by omega), p1]
      have fe := lsI_end hr (by rw [← eN]; exact f3)
      iterate 3 (refine hX _ ?_; conv => whnf)
      try simp only [kc0, kc1, kc2, kc3, kc4, kc5, kc6, kc7, kc8, kc9, kc10, kc11, kc12, kc13, kc14, kc15, kc16, kc17, kc18, kc19, kc20, kc21, kc22, kc23, kc24, kc25, kc26, kc27, kc28, kc29, kc30, kc31, kc32, kc33]
      refine hX _ ?_; conv => whnf
      refine ⟨fun q27 => ?_, fun q27 => ?_⟩
      · try simp (disch := omega) only [bg_w_id, Int.toNat_natCast, rw_land, sh_land, not_true_eq_false, e6, kc0, kc1, kc2, kc3, kc4, kc5, kc6, kc7, kc8, kc9, kc10, kc11, kc12, kc13, kc14, kc15, kc16, kc17, kc18, kc19, kc20, kc21, kc22, kc23, kc24, kc25, kc26, kc27, kc28, kc29, kc30, kc31, kc32, kc33] at q27
        refine hX _ ?_; conv => whnf
        refine hR h' (fun k hk => ?_) (fun j j1 j2 => ?_) (fun k k1 k2 k3 => ?_) fe.1 fe.2
        · rw [f1 k (by omega), g1 k (by omega) (by omega)]
        · rw [f2 j j1 j2, g1 46 (by omega) (by omega)]
        · rw [f1 k (by omega), g1 k k2 k3]
      · exfalso
        (try simp (disch := omega) only [bg_w_id, Int.toNat_natCast, rw_land, sh_land, not_true_eq_false, e6, kc0, kc1, kc2, kc3, kc4, kc5, kc6, kc7, kc8, kc9, kc10, kc11, kc12, kc13, kc14, kc15, kc16, kc17, kc18, kc19, kc20, kc21, kc22, kc23, kc24, kc25, kc26, kc27, kc28, kc29, kc30, kc31, kc32, kc33] at q27) <;> (omega)
    · intro h' j5 j6 f1 f2 f3 f4 f5 f6 f7 f8
      have e6 : h' 46 6 = ((2 ^ N : Nat) : Int) := by rw [f2 6 (by omega) (by omega), g1 46 (by omega) (by omega), p1]
      have e46 : h' 47 q = mh h0 q := by rw [f1 47 (by omega), g1 47 (by omega) (by omega), p2 q hq]
      have e48 : h' 49 q = vS (fun p => h0 (24 + p) 6) q := by rw [f1 49 (by omega), g2 q hq]
      have e47 : h' 48 q = h 48 q := by rw [f1 48 (by omega), g1 48 (by omega) (by omega)]
      rcases p3 q (by rw [← eN]; exact hq) with ⟨x1, x2⟩ | ⟨s, x1, x2, x3⟩
      · have y1 : h' 48 q = -1 := by rw [e47, x1]
        iterate 3 (refine hX _ ?_; conv => whnf)
        try simp only [kc0, kc1, kc2, kc3, kc4, kc5, kc6, kc7, kc8, kc9, kc10, kc11, kc12, kc13, kc14, kc15, kc16, kc17, kc18, kc19, kc20, kc21, kc22, kc23, kc24, kc25, kc26, kc27, kc28, kc29, kc30, kc31, kc32, kc33]
        refine hX _ ?_; conv => whnf
        refine ⟨fun q27 => ?_, fun q27 => ?_⟩
        · exfalso
          (try simp (disch := omega) only [bg_w_id, Int.toNat_natCast, rw_land, sh_land, not_true_eq_false, e6, kc0, kc1, kc2, kc3, kc4, kc5, kc6, kc7, kc8, kc9, kc10, kc11, kc12, kc13, kc14, kc15, kc16, kc17, kc18, kc19, kc20, kc21, kc22, kc23, kc24, kc25, kc26, kc27, kc28, kc29, kc30, kc31, kc32, kc33] at q27) <;> (omega)
        · try simp (disch := omega) only [bg_w_id, Int.toNat_natCast, rw_land, sh_land, not_true_eq_false, e6, kc0, kc1, kc2, kc3, kc4, kc5, kc6, kc7, kc8, kc9, kc10, kc11, kc12, kc13, kc14, kc15, kc16, kc17, kc18, kc19, kc20, kc21, kc22, kc23, kc24, kc25, kc26, kc27, kc28, kc29, kc30, kc31, kc32, kc33] at q27
          iterate 3 (refine hX _ ?_; conv => whnf)
          refine hX _ ?_; conv => whnf
          try (simp (disch := omega) only [bg_w_id, Int.toNat_natCast, rw_land, sh_land, not_true_eq_false, e6]; try conv => whnf)
          refine ⟨by first | omega | (simp (disch := omega) only [bg_w_id, Int.toNat_natCast, rw_land, sh_land, not_true_eq_false, e6]; omega), ?_⟩
          iterate 3 (refine hX _ ?_; conv => whnf)
          refine hX _ ?_; conv => whnf
          refine ⟨fun q42 => ?_, fun q42 => ?_⟩
          · try simp (disch := omega) only [bg_w_id, Int.toNat_natCast, rw_land, sh_land, not_true_eq_false, e6, kc0, kc1, kc2, kc3, kc4, kc5, kc6, kc7, kc8, kc9, kc10, kc11, kc12, kc13, kc14, kc15, kc16, kc17, kc18, kc19, kc20, kc21, kc22, kc23, kc24, kc25, kc26, kc27, kc28, kc29, kc30, kc31, kc32, kc33] at q42
            iterate 2 (refine hX _ ?_; conv => whnf)
            exact ih _ _ _ f1 f2 (lsI_no f3 x2) f4 f5 f6 f7 f8
          · exfalso
            (try simp (disch := omega) only [bg_w_id, Int.toNat_natCast, rw_land, sh_land, not_true_eq_false, e6, kc0, kc1, kc2, kc3, kc4, kc5, kc6, kc7, kc8, kc9, kc10, kc11, kc12, kc13, kc14, kc15, kc16, kc17, kc18, kc19, kc20, kc21, kc22, kc23, kc24, kc25, kc26, kc27, kc28, kc29, kc30, kc31, kc32, kc33] at q42) <;> (omega)
      · have y1 : h' 48 q = (s : Int) := by rw [e47, x2]
        have s32 := x1.1.2
        have wm := wg_m hr (a := a) (b := b) (by rw [← eN]; exact hq) x1
        have wr := wgM_rg ho (s := (s : Int)) ha hb
        have hv : ∀ s', aP h0 q s' → wgM h0 a b s' = wgM h0 a b s := fun s' hs' => by rw [wm, wg_m hr (by rw [← eN]; exact hq) hs']
        have fin : X (66, [oR 46, oR 22, oI a, oI b, oI (q : Int), oI (s : Int), oI (wgM h0 a b s)], [], (bg_SH n, h'), (0, 0)) := by
          iterate 3 (refine hX _ ?_; conv => whnf)
          try simp only [kc0, kc1, kc2, kc3, kc4, kc5, kc6, kc7, kc8, kc9, kc10, kc11, kc12, kc13, kc14, kc15, kc16, kc17, kc18, kc19, kc20, kc21, kc22, kc23, kc24, kc25, kc26, kc27, kc28, kc29, kc30, kc31, kc32, kc33]
          refine hX _ ?_; conv => whnf
          refine ⟨fun q72 => ?_, fun q72 => ?_⟩
          · try simp (disch := omega) only [bg_w_id, Int.toNat_natCast, rw_land, sh_land, not_true_eq_false, kc0, kc1, kc2, kc3, kc4, kc5, kc6, kc7, kc8, kc9, kc10, kc11, kc12, kc13, kc14, kc15, kc16, kc17, kc18, kc19, kc20, kc21, kc22, kc23, kc24, kc25, kc26, kc27, kc28, kc29, kc30, kc31, kc32, kc33] at q72
            iterate 8 (refine hX _ ?_; conv => whnf)
            try simp only [kc0, kc1, kc2, kc3, kc4, kc5, kc6, kc7, kc8, kc9, kc10, kc11, kc12, kc13, kc14, kc15, kc16, kc17, kc18, kc19, kc20, kc21, kc22, kc23, kc24, kc25, kc26, kc27, kc28, kc29, kc30, kc31, kc32, kc33]
            first
            | exact ih _ _ _ f1 f2 (lsI_old f3 x1 x3 hv (fun e => by have := f4 e; omega) (by omega)) f4 f5 f6 f7 f8
            | (refine ih _ _ _ (fun k hk => ?_) (fun j j1 j2 => ?_) ?_ ?_ ?_ ?_ ?_ ?_
               · rw [bg_up_ne hk, bg_up_ne hk]; exact f1 k hk
               · rw [bg_up_nj j2, bg_up_nj j1]; exact f2 j j1 j2
               · rw [bg_up_self, bg_up_nj (by omega), bg_up_self]; exact lsI_new f3 x1 x3 hv (by omega)
               · rw [bg_up_self, bg_up_nj (by omega), bg_up_self]; omega
               · rw [bg_up_nj (by omega), bg_up_self]; omega
               · rw [bg_up_nj (by omega), bg_up_self]; omega
               · rw [bg_up_self]; omega
               · rw [bg_up_self]; omega)
          · try simp (disch := omega) only [bg_w_id, Int.toNat_natCast, rw_land, sh_land, not_true_eq_false, kc0, kc1, kc2, kc3, kc4, kc5, kc6, kc7, kc8, kc9, kc10, kc11, kc12, kc13, kc14, kc15, kc16, kc17, kc18, kc19, kc20, kc21, kc22, kc23, kc24, kc25, kc26, kc27, kc28, kc29, kc30, kc31, kc32, kc33] at q72
            iterate 3 (refine hX _ ?_; conv => whnf)
            try simp only [kc0, kc1, kc2, kc3, kc4, kc5, kc6, kc7, kc8, kc9, kc10, kc11, kc12, kc13, kc14, kc15, kc16, kc17, kc18, kc19, kc20, kc21, kc22, kc23, kc24, kc25, kc26, kc27, kc28, kc29, kc30, kc31, kc32, kc33]
            refine hX _ ?_; conv => whnf
            refine ⟨fun q81 => ?_, fun q81 => ?_⟩
            · try simp (disch := omega) only [bg_w_id, Int.toNat_natCast, rw_land, sh_land, not_true_eq_false, kc0, kc1, kc2, kc3, kc4, kc5, kc6, kc7, kc8, kc9, kc10, kc11, kc12, kc13, kc14, kc15, kc16, kc17, kc18, kc19, kc20, kc21, kc22, kc23, kc24, kc25, kc26, kc27, kc28, kc29, kc30, kc31, kc32, kc33] at q81
              iterate 2 (refine hX _ ?_; conv => whnf)
              first
              | exact ih _ _ _ f1 f2 (lsI_old f3 x1 x3 hv (fun e => by have := f4 e; omega) (by omega)) f4 f5 f6 f7 f8
              | (refine ih _ _ _ (fun k hk => ?_) (fun j j1 j2 => ?_) ?_ ?_ ?_ ?_ ?_ ?_
                 · rw [bg_up_ne hk, bg_up_ne hk]; exact f1 k hk
                 · rw [bg_up_nj j2, bg_up_nj j1]; exact f2 j j1 j2
                 · rw [bg_up_self, bg_up_nj (by omega), bg_up_self]; exact lsI_new f3 x1 x3 hv (by omega)
                 · rw [bg_up_self, bg_up_nj (by omega), bg_up_self]; omega
                 · rw [bg_up_nj (by omega), bg_up_self]; omega
                 · rw [bg_up_nj (by omega), bg_up_self]; omega
                 · rw [bg_up_self]; omega
                 · rw [bg_up_self]; omega)
            · try simp (disch := omega) only [bg_w_id, Int.toNat_natCast, rw_land, sh_land, not_true_eq_false, kc0, kc1, kc2, kc3, kc4, kc5, kc6, kc7, kc8, kc9, kc10, kc11, kc12, kc13, kc14, kc15, kc16, kc17, kc18, kc19, kc20, kc21, kc22, kc23, kc24, kc25, kc26, kc27, kc28, kc29, kc30, kc31, kc32, kc33] at q81
              iterate 3 (refine hX _ ?_; conv => whnf)
              try simp only [kc0, kc1, kc2, kc3, kc4, kc5, kc6, kc7, kc8, kc9, kc10, kc11, kc12, kc13, kc14, kc15, kc16, kc17, kc18, kc19, kc20, kc21, kc22, kc23, kc24, kc25, kc26, kc27, kc28, kc29, kc30, kc31, kc32, kc33]
              refine hX _ ?_; conv => whnf
              refine ⟨fun q90 => ?_, fun q90 => ?_⟩
              · try simp (disch := omega) only [bg_w_id, Int.toNat_natCast, rw_land, sh_land, not_true_eq_false, kc0, kc1, kc2, kc3, kc4, kc5, kc6, kc7, kc8, kc9, kc10, kc11, kc12, kc13, kc14, kc15, kc16, kc17, kc18, kc19, kc20, kc21, kc22, kc23, kc24, kc25, kc26, kc27, kc28, kc29, kc30, kc31, kc32, kc33] at q90
                iterate 2 (refine hX _ ?_; conv => whnf)
                first
                | exact ih _ _ _ f1 f2 (lsI_old f3 x1 x3 hv (fun e => by have := f4 e; omega) (by omega)) f4 f5 f6 f7 f8
                | (refine ih _ _ _ (fun k hk => ?_) (fun j j1 j2 => ?_) ?_ ?_ ?_ ?_ ?_ ?_
                   · rw [bg_up_ne hk, bg_up_ne hk]; exact f1 k hk
                   · rw [bg_up_nj j2, bg_up_nj j1]; exact f2 j j1 j2
                   · rw [bg_up_self, bg_up_nj (by omega), bg_up_self]; exact lsI_new f3 x1 x3 hv (by omega)
                   · rw [bg_up_self, bg_up_nj (by omega), bg_up_self]; omega
                   · rw [bg_up_nj (by omega), bg_up_self]; omega
                   · rw [bg_up_nj (by omega), bg_up_self]; omega
                   · rw [bg_up_self]; omega
                   · rw [bg_up_self]; omega)
              · try simp (disch := omega) only [bg_w_id, Int.toNat_natCast, rw_land, sh_land, not_true_eq_false, kc0, kc1, kc2, kc3, kc4, kc5, kc6, kc7, kc8, kc9, kc10, kc11, kc12, kc13, kc14, kc15, kc16, kc17, kc18, kc19, kc20, kc21, kc22, kc23, kc24, kc25, kc26, kc27, kc28, kc29, kc30, kc31, kc32, kc33] at q90
                iterate 8 (refine hX _ ?_; conv => whnf)
                try simp only [kc0, kc1, kc2, kc3, kc4, kc5, kc6, kc7, kc8, kc9, kc10, kc11, kc12, kc13, kc14, kc15, kc16, kc17, kc18, kc19, kc20, kc21, kc22, kc23, kc24, kc25, kc26, kc27, kc28, kc29, kc30, kc31, kc32, kc33]
                first
                | exact ih _ _ _ f1 f2 (lsI_old f3 x1 x3 hv (fun e => by have := f4 e; omega) (by omega)) f4 f5 f6 f7 f8
                | (refine ih _ _ _ (fun k hk => ?_) (fun j j1 j2 => ?_) ?_ ?_ ?_ ?_ ?_ ?_
                   · rw [bg_up_ne hk, bg_up_ne hk]; exact f1 k hk
                   · rw [bg_up_nj j2, bg_up_nj j1]; exact f2 j j1 j2
                   · rw [bg_up_self, bg_up_nj (by omega), bg_up_self]; exact lsI_new f3 x1 x3 hv (by omega)
                   · rw [bg_up_self, bg_up_nj (by omega), bg_up_self]; omega
                   · rw [bg_up_nj (by omega), bg_up_self]; omega
                   · rw [bg_up_nj (by omega), bg_up_self]; omega
                   · rw [bg_up_self]; omega
                   · rw [bg_up_self]; omega)
        iterate 3 (refine hX _ ?_; conv => whnf)
        try simp only [kc0, kc1, kc2, kc3, kc4, kc5, kc6, kc7, kc8, kc9, kc10, kc11, kc12, kc13, kc14, kc15, kc16, kc17, kc18, kc19, kc20, kc21, kc22, kc23, kc24, kc25, kc26, kc27, kc28, kc29, kc30, kc31, kc32, kc33]
        refine hX _ ?_; conv => whnf
        refine ⟨fun q27 => ?_, fun q27 => ?_⟩
        · exfalso
          (try simp (disch := omega) only [bg_w_id, Int.toNat_natCast, rw_land, sh_land, not_true_eq_false, e6, kc0, kc1, kc2, kc3, kc4, kc5, kc6, kc7, kc8, kc9, kc10, kc11, kc12, kc13, kc14, kc15, kc16, kc17, kc18, kc19, kc20, kc21, kc22, kc23, kc24, kc25, kc26, kc27, kc28, kc29, kc30, kc31, kc32, kc33] at q27) <;> (omega)
        · try simp (disch := omega) only [bg_w_id, Int.toNat_natCast, rw_land, sh_land, not_true_eq_false, e6, kc0, kc1, kc2, kc3, kc4, kc5, kc6, kc7, kc8, kc9, kc10, kc11, kc12, kc13, kc14, kc15, kc16, kc17, kc18, kc19, kc20, kc21, kc22, kc23, kc24, kc25, kc26, kc27, kc28, kc29, kc30, kc31, kc32, kc33] at q27
          iterate 3 (refine hX _ ?_; conv => whnf)
          refine hX _ ?_; conv => whnf
          try (simp (disch := omega) only [bg_w_id, Int.toNat_natCast, rw_land, sh_land, not_true_eq_false, e6]; try conv => whnf)
          refine ⟨by first | omega | (simp (disch := omega) only [bg_w_id, Int.toNat_natCast, rw_land, sh_land, not_true_eq_false, e6]; omega), ?_⟩
          iterate 3 (refine hX _ ?_; conv => whnf)
          refine hX _ ?_; conv => whnf
          refine ⟨fun q42 => ?_, fun q42 => ?_⟩
          · exfalso
            (try simp (disch := omega) only [bg_w_id, Int.toNat_natCast, rw_land, sh_land, not_true_eq_false, e6, kc0, kc1, kc2, kc3, kc4, kc5, kc6, kc7, kc8, kc9, kc10, kc11, kc12, kc13, kc14, kc15, kc16, kc17, kc18, kc19, kc20, kc21, kc22, kc23, kc24, kc25, kc26, kc27, kc28, kc29, kc30, kc31, kc32, kc33] at q42) <;> (omega)
          · try simp (disch := omega) only [bg_w_id, Int.toNat_natCast, rw_land, sh_land, not_true_eq_false, e6, kc0, kc1, kc2, kc3, kc4, kc5, kc6, kc7, kc8, kc9, kc10, kc11, kc12, kc13, kc14, kc15, kc16, kc17, kc18, kc19, kc20, kc21, kc22, kc23, kc24, kc25, kc26, kc27, kc28, kc29, kc30, kc31, kc32, kc33] at q42
            iterate 4 (refine hX _ ?_; conv => whnf)
            refine hX _ ?_; conv => whnf
            try (simp (disch := omega) only [bg_w_id, Int.toNat_natCast, rw_land, sh_land, not_true_eq_false, e6]; try conv => whnf)
            refine ⟨by first | omega | (simp (disch := omega) only [bg_w_id, Int.toNat_natCast, rw_land, sh_land, not_true_eq_false, e6]; omega), ?_⟩
            iterate 5 (refine hX _ ?_; conv => whnf)
            refine hX _ ?_; conv => whnf
            try (simp (disch := omega) only [bg_w_id, Int.toNat_natCast, rw_land, sh_land, not_true_eq_false, e6]; try conv => whnf)
            refine ⟨by first | omega | (simp (disch := omega) only [bg_w_id, Int.toNat_natCast, rw_land, sh_land, not_true_eq_false, e6]; omega), ?_⟩
            iterate 3 (refine hX _ ?_; conv => whnf)
            rw [e46, e48, y1, ← wm]
            exact fin
  iterate 3 (refine hX _ ?_; conv => whnf)
  refine hX _ ?_; conv => whnf
  try simp (disch := omega) only [bg_w_id, Int.toNat_natCast, rw_land, sh_land, not_true_eq_false]
  refine s_sumNumbers d n N 6 (by omega) (by omega) h p1 _ (fun h1 g1 g2 => ?_)
  conv => whnf
  iterate 8 (refine hX _ ?_; conv => whnf)
  try simp only [kc0, kc1, kc2, kc3, kc4, kc5, kc6, kc7, kc8, kc9, kc10, kc11, kc12, kc13, kc14, kc15, kc16, kc17, kc18, kc19, kc20, kc21, kc22, kc23, kc24, kc25, kc26, kc27, kc28, kc29, kc30, kc31, kc32, kc33]
  refine l1 h1 g1 (fun m hm => ?_) 0 (Nat.zero_le _) _ _ _ (fun k hk => ?_) (fun j j1 j2 => ?_) ?_ ?_ ?_ ?_ ?_ ?_
  · rw [g2 m hm]
    exact sm_congr (fun p hp => by show _ * h (24 + p) ((6 : Nat) : Int) = _; rw [hf (24 + p) (by omega)]; rfl)
  · rw [bg_up_ne hk, bg_up_ne hk]
  · rw [bg_up_nj j2, bg_up_nj j1]
  · rw [bg_up_self, bg_up_nj (by omega), bg_up_self]; exact lsI_0 _ _ _
  · rw [bg_up_self]; exact fun _ => rfl
  · rw [bg_up_nj (by omega), bg_up_self]; omega
  · rw [bg_up_nj (by omega), bg_up_self]; omega
  · rw [bg_up_self]; omega
  · rw [bg_up_self]; omega
theorem PLN_fr {h h1 h2 : bg_G} (hp : PLN h h1) (e6 : h2 46 6 = h1 46 6) (e46 : h2 47 = h1 47) (e47 : h2 48 = h1 48) (e50 : h2 51 = h1 51) (e51 : h2 52 = h1 52) : PLN h h2 := by
  obtain ⟨a, b, c, d⟩ := hp
  refine ⟨by rw [e6]; exact a, fun m hm => by rw [e46]; exact b m hm, fun m hm => by rw [e47]; exact c m hm, fun c hc => full_fr (by rw [e50]) (by rw [e51]) (d c hc)⟩
def wghA (h : bg_G) (a b w : Int) : Int := if w = 0 then ((wdM h a b (setsM h) : Nat) : Int) else wgM h a b (wdM h a b (setsM h) : Nat)
theorem s_cweighed (d n : Nat) (a b w : Int) (ha : i32 a) (hb : i32 b) (hw : i32 w) (h : bg_G) (hr : REL h) (hs : svC h) (hp : PL h) (Rt : bg_R) (hR1 : (0 ≤ a ∧ a ≤ 99) → (0 ≤ b ∧ b ≤ 99) → (0 ≤ w ∧ w ≤ 1) → ∀ h' : bg_G, fr45 h h' → h' 46 7 = 1 → h' 46 8 = h 46 8 → h' 46 9 = h 46 9 → PLN h h' → Rt (some (.inl (wghA h a b w))) (bg_SH n, h')) (hR0 : ¬ ((0 ≤ a ∧ a ≤ 99) ∧ (0 ≤ b ∧ b ≤ 99) ∧ (0 ≤ w ∧ w ≤ 1)) → Rt (some (.inl (-1))) (bg_SH n, h)) : bg_Ca bg_MS (d + 5) 92 [vR 2, vI a, vI b, vI w] (bg_SH n, h) Rt := by
  refine bg_ca (cd := cd_X8_weighed) rfl rfl ?_
  intro X hX
  by_cases c1 : (0 ≤ a ∧ a ≤ 99) ∧ (0 ≤ b ∧ b ≤ 99) ∧ (0 ≤ w ∧ w ≤ 1)
  · have hR1 := hR1 c1.1 c1.2.1 c1.2.2
    unfold wghA at hR1
    refine hX _ ?_; conv => whnf
    refine hX _ ?_; conv => whnf
    refine ⟨fun q1 => ?_, fun q1 => ?_⟩
    · exfalso
      (try simp (disch := omega) only [bg_w_id, Int.toNat_natCast, rw_land, sh_land, not_true_eq_false, kc0, kc1, kc2, kc3, kc4, kc5, kc6, kc7, kc8, kc9, kc10, kc11, kc12, kc13, kc14, kc15, kc16, kc17, kc18, kc19, kc20, kc21, kc22, kc23, kc24, kc25, kc26, kc27, kc28, kc29, kc30, kc31, kc32, kc33] at q1) <;> (omega)
    · try simp (disch := omega) only [bg_w_id, Int.toNat_natCast, rw_land, sh_land, not_true_eq_false, kc0, kc1, kc2, kc3, kc4, kc5, kc6, kc7, kc8, kc9, kc10, kc11, kc12, kc13, kc14, kc15, kc16, kc17, kc18, kc19, kc20, kc21, kc22, kc23, kc24, kc25, kc26, kc27, kc28, kc29, kc30, kc31, kc32, kc33] at q1
      iterate 2 (refine hX _ ?_; conv => whnf)
      refine hX _ ?_; conv => whnf
      refine ⟨fun q7 => ?_, fun q7 => ?_⟩
      · exfalso
        (try simp (disch := omega) only [bg_w_id, Int.toNat_natCast, rw_land, sh_land, not_true_eq_false, kc0, kc1, kc2, kc3, kc4, kc5, kc6, kc7, kc8, kc9, kc10, kc11, kc12, kc13, kc14, kc15, kc16, kc17, kc18, kc19, kc20, kc21, kc22, kc23, kc24, kc25, kc26, kc27, kc28, kc29, kc30, kc31, kc32, kc33] at q7) <;> (omega)
      · try simp (disch := omega) only [bg_w_id, Int.toNat_natCast, rw_land, sh_land, not_true_eq_false, kc0, kc1, kc2, kc3, kc4, kc5, kc6, kc7, kc8, kc9, kc10, kc11, kc12, kc13, kc14, kc15, kc16, kc17, kc18, kc19, kc20, kc21, kc22, kc23, kc24, kc25, kc26, kc27, kc28, kc29, kc30, kc31, kc32, kc33] at q7
        refine hX _ ?_; conv => whnf
        refine hX _ ?_; conv => whnf
        refine ⟨fun q11 => ?_, fun q11 => ?_⟩
        · exfalso
          (try simp (disch := omega) only [bg_w_id, Int.toNat_natCast, rw_land, sh_land, not_true_eq_false, kc0, kc1, kc2, kc3, kc4, kc5, kc6, kc7, kc8, kc9, kc10, kc11, kc12, kc13, kc14, kc15, kc16, kc17, kc18, kc19, kc20, kc21, kc22, kc23, kc24, kc25, kc26, kc27, kc28, kc29, kc30, kc31, kc32, kc33] at q11) <;> (omega)
        · try simp (disch := omega) only [bg_w_id, Int.toNat_natCast, rw_land, sh_land, not_true_eq_false, kc0, kc1, kc2, kc3, kc4, kc5, kc6, kc7, kc8, kc9, kc10, kc11, kc12, kc13, kc14, kc15, kc16, kc17, kc18, kc19, kc20, kc21, kc22, kc23, kc24, kc25, kc26, kc27, kc28, kc29, kc30, kc31, kc32, kc33] at q11
          iterate 2 (refine hX _ ?_; conv => whnf)
          refine hX _ ?_; conv => whnf
          refine ⟨fun q17 => ?_, fun q17 => ?_⟩
          · exfalso
            (try simp (disch := omega) only [bg_w_id, Int.toNat_natCast, rw_land, sh_land, not_true_eq_false, kc0, kc1, kc2, kc3, kc4, kc5, kc6, kc7, kc8, kc9, kc10, kc11, kc12, kc13, kc14, kc15, kc16, kc17, kc18, kc19, kc20, kc21, kc22, kc23, kc24, kc25, kc26, kc27, kc28, kc29, kc30, kc31, kc32, kc33] at q17) <;> (omega)
          · try simp (disch := omega) only [bg_w_id, Int.toNat_natCast, rw_land, sh_land, not_true_eq_false, kc0, kc1, kc2, kc3, kc4, kc5, kc6, kc7, kc8, kc9, kc10, kc11, kc12, kc13, kc14, kc15, kc16, kc17, kc18, kc19, kc20, kc21, kc22, kc23, kc24, kc25, kc26, kc27, kc28, kc29, kc30, kc31, kc32, kc33] at q17
            refine hX _ ?_; conv => whnf
            refine hX _ ?_; conv => whnf
            refine ⟨fun q21 => ?_, fun q21 => ?_⟩
            · exfalso
              (try simp (disch := omega) only [bg_w_id, Int.toNat_natCast, rw_land, sh_land, not_true_eq_false, kc0, kc1, kc2, kc3, kc4, kc5, kc6, kc7, kc8, kc9, kc10, kc11, kc12, kc13, kc14, kc15, kc16, kc17, kc18, kc19, kc20, kc21, kc22, kc23, kc24, kc25, kc26, kc27, kc28, kc29, kc30, kc31, kc32, kc33] at q21) <;> (omega)
            · try simp (disch := omega) only [bg_w_id, Int.toNat_natCast, rw_land, sh_land, not_true_eq_false, kc0, kc1, kc2, kc3, kc4, kc5, kc6, kc7, kc8, kc9, kc10, kc11, kc12, kc13, kc14, kc15, kc16, kc17, kc18, kc19, kc20, kc21, kc22, kc23, kc24, kc25, kc26, kc27, kc28, kc29, kc30, kc31, kc32, kc33] at q21
              iterate 2 (refine hX _ ?_; conv => whnf)
              refine hX _ ?_; conv => whnf
              refine ⟨fun q26 => ?_, fun q26 => ?_⟩
              · try simp (disch := omega) only [bg_w_id, Int.toNat_natCast, rw_land, sh_land, not_true_eq_false, kc0, kc1, kc2, kc3, kc4, kc5, kc6, kc7, kc8, kc9, kc10, kc11, kc12, kc13, kc14, kc15, kc16, kc17, kc18, kc19, kc20, kc21, kc22, kc23, kc24, kc25, kc26, kc27, kc28, kc29, kc30, kc31, kc32, kc33] at q26
                iterate 6 (refine hX _ ?_; conv => whnf)
                refine hX _ ?_; conv => whnf
                try simp (disch := omega) only [bg_w_id, Int.toNat_natCast, rw_land, sh_land, not_true_eq_false]
                refine s_cprep d n h hr hs hp _ (fun h1 f1 f2 f3 f4 f5 => ?_)
                conv => whnf
                iterate 6 (refine hX _ ?_; conv => whnf)
                refine hX _ ?_; conv => whnf
                try simp (disch := omega) only [bg_w_id, Int.toNat_natCast, rw_land, sh_land, not_true_eq_false]
                refine s_plweigh (d + 1) n a b c1.1 c1.2.1 h h1 hr f1 f5 _ (fun h2 g1 g2 g3 g4 g5 => ?_)
                have hR1 := hR1 h2 (fun k hk => by rw [g1 k hk]; exact f1 k hk) (by rw [g2 7 (by omega) (by omega)]; exact f2) (by rw [g2 8 (by omega) (by omega)]; exact f3) (by rw [g2 9 (by omega) (by omega)]; exact f4) (PLN_fr f5 (g2 6 (by omega) (by omega)) (g3 47 (by omega) (by omega) (by omega)) (g3 48 (by omega) (by omega) (by omega)) (g3 51 (by omega) (by omega) (by omega)) (g3 52 (by omega) (by omega) (by omega)))
                conv => whnf
                refine hX _ ?_; conv => whnf
                refine hX _ ?_; conv => whnf
                refine ⟨fun q60 => ?_, fun q60 => ?_⟩
                · try simp (disch := omega) only [bg_w_id, Int.toNat_natCast, rw_land, sh_land, not_true_eq_false, kc0, kc1, kc2, kc3, kc4, kc5, kc6, kc7, kc8, kc9, kc10, kc11, kc12, kc13, kc14, kc15, kc16, kc17, kc18, kc19, kc20, kc21, kc22, kc23, kc24, kc25, kc26, kc27, kc28, kc29, kc30, kc31, kc32, kc33] at q60
                  iterate 3 (refine hX _ ?_; conv => whnf)
                  try simp only [kc0, kc1, kc2, kc3, kc4, kc5, kc6, kc7, kc8, kc9, kc10, kc11, kc12, kc13, kc14, kc15, kc16, kc17, kc18, kc19, kc20, kc21, kc22, kc23, kc24, kc25, kc26, kc27, kc28, kc29, kc30, kc31, kc32, kc33]
                  refine hX _ ?_; conv => whnf
                  first
                  | (rw [if_pos (by omega), ← g4] at hR1; exact hR1)
                  | (rw [if_neg (by omega), ← g5] at hR1; exact hR1)
                · try simp (disch := omega) only [bg_w_id, Int.toNat_natCast, rw_land, sh_land, not_true_eq_false, kc0, kc1, kc2, kc3, kc4, kc5, kc6, kc7, kc8, kc9, kc10, kc11, kc12, kc13, kc14, kc15, kc16, kc17, kc18, kc19, kc20, kc21, kc22, kc23, kc24, kc25, kc26, kc27, kc28, kc29, kc30, kc31, kc32, kc33] at q60
                  iterate 4 (refine hX _ ?_; conv => whnf)
                  try simp only [kc0, kc1, kc2, kc3, kc4, kc5, kc6, kc7, kc8, kc9, kc10, kc11, kc12, kc13, kc14, kc15, kc16, kc17, kc18, kc19, kc20, kc21, kc22, kc23, kc24, kc25, kc26, kc27, kc28, kc29, kc30, kc31, kc32, kc33]
                  refine hX _ ?_; conv => whnf
                  first
                  | (rw [if_pos (by omega), ← g4] at hR1; exact hR1)
                  | (rw [if_neg (by omega), ← g5] at hR1; exact hR1)
              · exfalso
                (try simp (disch := omega) only [bg_w_id, Int.toNat_natCast, rw_land, sh_land, not_true_eq_false, kc0, kc1, kc2, kc3, kc4, kc5, kc6, kc7, kc8, kc9, kc10, kc11, kc12, kc13, kc14, kc15, kc16, kc17, kc18, kc19, kc20, kc21, kc22, kc23, kc24, kc25, kc26, kc27, kc28, kc29, kc30, kc31, kc32, kc33] at q26) <;> (omega)
  · refine hX _ ?_; conv => whnf
    refine hX _ ?_; conv => whnf
    refine ⟨fun q1 => ?_, fun q1 => ?_⟩
    · try simp (disch := omega) only [bg_w_id, Int.toNat_natCast, rw_land, sh_land, not_true_eq_false, kc0, kc1, kc2, kc3, kc4, kc5, kc6, kc7, kc8, kc9, kc10, kc11, kc12, kc13, kc14, kc15, kc16, kc17, kc18, kc19, kc20, kc21, kc22, kc23, kc24, kc25, kc26, kc27, kc28, kc29, kc30, kc31, kc32, kc33] at q1
      refine hX _ ?_; conv => whnf
      refine hX _ ?_; conv => whnf
      exact hR0 c1
    · try simp (disch := omega) only [bg_w_id, Int.toNat_natCast, rw_land, sh_land, not_true_eq_false, kc0, kc1, kc2, kc3, kc4, kc5, kc6, kc7, kc8, kc9, kc10, kc11, kc12, kc13, kc14, kc15, kc16, kc17, kc18, kc19, kc20, kc21, kc22, kc23, kc24, kc25, kc26, kc27, kc28, kc29, kc30, kc31, kc32, kc33] at q1
      iterate 2 (refine hX _ ?_; conv => whnf)
      refine hX _ ?_; conv => whnf
      refine ⟨fun q7 => ?_, fun q7 => ?_⟩
      · try simp (disch := omega) only [bg_w_id, Int.toNat_natCast, rw_land, sh_land, not_true_eq_false, kc0, kc1, kc2, kc3, kc4, kc5, kc6, kc7, kc8, kc9, kc10, kc11, kc12, kc13, kc14, kc15, kc16, kc17, kc18, kc19, kc20, kc21, kc22, kc23, kc24, kc25, kc26, kc27, kc28, kc29, kc30, kc31, kc32, kc33] at q7
        refine hX _ ?_; conv => whnf
        refine hX _ ?_; conv => whnf
        exact hR0 c1
      · try simp (disch := omega) only [bg_w_id, Int.toNat_natCast, rw_land, sh_land, not_true_eq_false, kc0, kc1, kc2, kc3, kc4, kc5, kc6, kc7, kc8, kc9, kc10, kc11, kc12, kc13, kc14, kc15, kc16, kc17, kc18, kc19, kc20, kc21, kc22, kc23, kc24, kc25, kc26, kc27, kc28, kc29, kc30, kc31, kc32, kc33] at q7
        refine hX _ ?_; conv => whnf
        refine hX _ ?_; conv => whnf
        refine ⟨fun q11 => ?_, fun q11 => ?_⟩
        · try simp (disch := omega) only [bg_w_id, Int.toNat_natCast, rw_land, sh_land, not_true_eq_false, kc0, kc1, kc2, kc3, kc4, kc5, kc6, kc7, kc8, kc9, kc10, kc11, kc12, kc13, kc14, kc15, kc16, kc17, kc18, kc19, kc20, kc21, kc22, kc23, kc24, kc25, kc26, kc27, kc28, kc29, kc30, kc31, kc32, kc33] at q11
          refine hX _ ?_; conv => whnf
          refine hX _ ?_; conv => whnf
          exact hR0 c1
        · try simp (disch := omega) only [bg_w_id, Int.toNat_natCast, rw_land, sh_land, not_true_eq_false, kc0, kc1, kc2, kc3, kc4, kc5, kc6, kc7, kc8, kc9, kc10, kc11, kc12, kc13, kc14, kc15, kc16, kc17, kc18, kc19, kc20, kc21, kc22, kc23, kc24, kc25, kc26, kc27, kc28, kc29, kc30, kc31, kc32, kc33] at q11
          iterate 2 (refine hX _ ?_; conv => whnf)
          refine hX _ ?_; conv => whnf
          refine ⟨fun q17 => ?_, fun q17 => ?_⟩
          · try simp (disch := omega) only [bg_w_id, Int.toNat_natCast, rw_land, sh_land, not_true_eq_false, kc0, kc1, kc2, kc3, kc4, kc5, kc6, kc7, kc8, kc9, kc10, kc11, kc12, kc13, kc14, kc15, kc16, kc17, kc18, kc19, kc20, kc21, kc22, kc23, kc24, kc25, kc26, kc27, kc28, kc29, kc30, kc31, kc32, kc33] at q17
            refine hX _ ?_; conv => whnf
            refine hX _ ?_; conv => whnf
            exact hR0 c1
          · try simp (disch := omega) only [bg_w_id, Int.toNat_natCast, rw_land, sh_land, not_true_eq_false, kc0, kc1, kc2, kc3, kc4, kc5, kc6, kc7, kc8, kc9, kc10, kc11, kc12, kc13, kc14, kc15, kc16, kc17, kc18, kc19, kc20, kc21, kc22, kc23, kc24, kc25, kc26, kc27, kc28, kc29, kc30, kc31, kc32, kc33] at q17
            refine hX _ ?_; conv => whnf
            refine hX _ ?_; conv => whnf
            refine ⟨fun q21 => ?_, fun q21 => ?_⟩
            · try simp (disch := omega) only [bg_w_id, Int.toNat_natCast, rw_land, sh_land, not_true_eq_false, kc0, kc1, kc2, kc3, kc4, kc5, kc6, kc7, kc8, kc9, kc10, kc11, kc12, kc13, kc14, kc15, kc16, kc17, kc18, kc19, kc20, kc21, kc22, kc23, kc24, kc25, kc26, kc27, kc28, kc29, kc30, kc31, kc32, kc33] at q21
              refine hX _ ?_; conv => whnf
              refine hX _ ?_; conv => whnf
              exact hR0 c1
            · try simp (disch := omega) only [bg_w_id, Int.toNat_natCast, rw_land, sh_land, not_true_eq_false, kc0, kc1, kc2, kc3, kc4, kc5, kc6, kc7, kc8, kc9, kc10, kc11, kc12, kc13, kc14, kc15, kc16, kc17, kc18, kc19, kc20, kc21, kc22, kc23, kc24, kc25, kc26, kc27, kc28, kc29, kc30, kc31, kc32, kc33] at q21
              iterate 2 (refine hX _ ?_; conv => whnf)
              refine hX _ ?_; conv => whnf
              refine ⟨fun q26 => ?_, fun q26 => ?_⟩
              · try simp (disch := omega) only [bg_w_id, Int.toNat_natCast, rw_land, sh_land, not_true_eq_false, kc0, kc1, kc2, kc3, kc4, kc5, kc6, kc7, kc8, kc9, kc10, kc11, kc12, kc13, kc14, kc15, kc16, kc17, kc18, kc19, kc20, kc21, kc22, kc23, kc24, kc25, kc26, kc27, kc28, kc29, kc30, kc31, kc32, kc33] at q26
                exfalso; omega
              · try simp (disch := omega) only [bg_w_id, Int.toNat_natCast, rw_land, sh_land, not_true_eq_false, kc0, kc1, kc2, kc3, kc4, kc5, kc6, kc7, kc8, kc9, kc10, kc11, kc12, kc13, kc14, kc15, kc16, kc17, kc18, kc19, kc20, kc21, kc22, kc23, kc24, kc25, kc26, kc27, kc28, kc29, kc30, kc31, kc32, kc33] at q26
                refine hX _ ?_; conv => whnf
                refine hX _ ?_; conv => whnf
                exact hR0 c1
theorem bw_mono {g : Nat → Int} {w : Nat} : ∀ N, w ≤ N → (bw g w).2 ≤ (bw g N).2
  | 0, h => by rw [show w = 0 by omega]; omega
  | N + 1, h => by
    by_cases e : w = N + 1
    · rw [e]; omega
    · have ih := bw_mono (g := g) (w := w) N (by omega)
      have eb : bw g (N + 1) = if (bw g N).2 < g N then ((N : Int), g N) else bw g N := rfl
      rw [eb]
      split
      · show _ ≤ g N; omega
      · exact ih
theorem pay_bw {h : bg_G} (hr : REL h) (ht : tblC h (wsM h).length (lenW (wsM h)) (ptW (wsM h))) (held : Int) : payM h held = if (wsM h).length = 0 then h 121 2 * 100000000000000 else (bw (gnM h held) (wsM h).length).2 := by
  have := bw_2 (gnM h held) (wsM h).length (fun w hw => by
    have := gC_rg hr.1 (held := held) ht hw
    rw [g_eq hr hw] at this
    omega)
  unfold payM bwM
  rcases this with ⟨a, b, c⟩ | ⟨a, b, c⟩
  · rw [if_pos a, if_pos b]
  · rw [if_neg (by omega), if_neg (by omega), c]
/-- the plans, and which way was hardest, may have changed -/
def fr41w (h h' : bg_G) : Prop := ∀ k, ¬ (k = 41 ∨ (46 ≤ k ∧ k ≤ 52)) → h' k = h k
/-- another way may have been hardest, nothing else is changed -/
def fr41 (h h' : bg_G) (N : Nat) : Prop := (∀ k, k ≠ 41 → h' k = h k) ∧ (∀ j, j ≠ 4 → h' 41 j = h 41 j) ∧ (0 ≤ h' 41 4 ∧ (h' 41 4 = 0 ∨ h' 41 4 < N))
theorem bw_ub {g : Nat → Int} : ∀ N i, i < N → g i ≤ (bw g N).2
  | 0, i, h => absurd h (by omega)
  | N + 1, i, h => by
    have eb : bw g (N + 1) = if (bw g N).2 < g N then ((N : Int), g N) else bw g N := rfl
    rw [eb]
    by_cases e : i = N
    · subst e
      split
      · exact Int.le_refl _
      · omega
    · have ih := bw_ub (g := g) N i (by omega)
      split
      · show g i ≤ g N
        omega
      · exact ih
theorem bw_is {g : Nat → Int} {N q : Nat} {G : Int} (hg : ∀ w, w < N → -9223372036854775808 < g w) (hq : q < N) (e : G = g q) (hG : ∀ i, i < N → g i ≤ G) : (bw g N).2 = G := by
  have h1 := bw_ub (g := g) N q hq
  rcases bw_2 g N hg with ⟨a, b, c⟩ | ⟨a, b, c⟩
  · omega
  · have := hG (bw g N).1.toNat (by omega)
    omega
theorem s_greatestGain (d n : Nat) (held lim : Int) (hlim : -9223372036854775808 ≤ lim ∧ lim ≤ 9223372036854775807) (h : bg_G) (hr : REL h) (ht : tblC h (wsM h).length (lenW (wsM h)) (ptW (wsM h))) (hc : crT h (wsM h).length (lenW (wsM h)) (ptW (wsM h))) (Rt : bg_R) (hR1 : payM h held ≤ lim → ∀ h' : bg_G, fr41 h h' (wsM h).length → Rt (some (.inr (.inl (payM h held)))) (bg_SH n, h')) (hR2 : lim < payM h held → ∀ r : Int, lim < r → -100000000000000000 ≤ r → r ≤ 100000000000000000 → ∀ h' : bg_G, fr41 h h' (wsM h).length → Rt (some (.inr (.inl r))) (bg_SH n, h')) : bg_Ca bg_MS (d + 3) 77 [vR 41, vR 22, vI held, vL lim] (bg_SH n, h) Rt := by
  obtain ⟨N, eN⟩ : ∃ N : Nat, N = (wsM h).length := ⟨_, rfl⟩
  obtain ⟨t1, t2, t3⟩ := id ht
  obtain ⟨hc1, hc2⟩ := hc
  have ho := hr.1
  have r7 := hr.2.2.2.1.2.2.2.2
  have ro := hr.2.1.1.2.2.2.2
  have pb := pay_bw hr ht held
  have gr : ∀ w, w < N → -100000000000000000 ≤ gnM h held w ∧ gnM h held w ≤ 100000000000000000 := fun w hw => by
    have := gC_rg hr.1 (held := held) ht (by rw [← eN]; exact hw)
    rw [g_eq hr (by rw [← eN]; exact hw)] at this
    exact this
  have ge : ∀ w, w < N → ∀ h' : bg_G, (∀ k, k ≠ 41 → h' k = h k) → gn (h' 22 6) (fun p => h' (24 + p) 3) (fun p => h' (24 + p) 5) held (lenW (wsM h) w) (ptW (wsM h) w) = gnM h held w := fun w hw h' f => by
    have eg := g_eq hr (held := held) (w := w) (by rw [← eN]; exact hw)
    unfold gC at eg
    rw [← eg, f 22 (by omega)]
    exact gn_congr (fun i hi => by
      have := ((t3 w (by rw [← eN]; exact hw)).2.2 i hi).1
      exact ⟨by rw [f (24 + ptW (wsM h) w i) (by omega)], by rw [f (24 + ptW (wsM h) w i) (by omega)]⟩)
  have ce : ∀ w, w < N → ∀ h' : bg_G, (∀ k, k ≠ 41 → h' k = h k) → h' 44 w = sm (lenW (wsM h) w) (fun i => h' (24 + ptW (wsM h) w i) 3) := fun w hw h' f => by
    rw [f 44 (by omega), hc2 w (by rw [← eN]; exact hw)]
    exact sm_congr (fun i hi => by
      have := ((t3 w (by rw [← eN]; exact hw)).2.2 i hi).1
      rw [f (24 + ptW (wsM h) w i) (by omega)])
  rw [← eN] at pb t1 t2 t3 hc1 hR1 hR2
  refine bg_ca (cd := cd_X7_greatestGain) rfl rfl ?_
  intro X hX
  by_cases c0 : N = 0
  · rw [if_pos c0] at pb
    iterate 2 (refine hX _ ?_; conv => whnf)
    try simp only [kc0, kc1, kc2, kc3, kc4, kc5, kc6, kc7, kc8, kc9, kc10, kc11, kc12, kc13, kc14, kc15, kc16, kc17, kc18, kc19, kc20, kc21, kc22, kc23, kc24, kc25, kc26, kc27, kc28, kc29, kc30, kc31, kc32, kc33]
    refine hX _ ?_; conv => whnf
    refine ⟨fun q4 => ?_, fun q4 => ?_⟩
    · exfalso
      (try simp (disch := omega) only [bg_w_id, Int.toNat_natCast, rw_land, sh_land, not_true_eq_false, t1, kc0, kc1, kc2, kc3, kc4, kc5, kc6, kc7, kc8, kc9, kc10, kc11, kc12, kc13, kc14, kc15, kc16, kc17, kc18, kc19, kc20, kc21, kc22, kc23, kc24, kc25, kc26, kc27, kc28, kc29, kc30, kc31, kc32, kc33] at q4) <;> (omega)
    · try simp (disch := omega) only [bg_w_id, Int.toNat_natCast, rw_land, sh_land, not_true_eq_false, t1, kc0, kc1, kc2, kc3, kc4, kc5, kc6, kc7, kc8, kc9, kc10, kc11, kc12, kc13, kc14, kc15, kc16, kc17, kc18, kc19, kc20, kc21, kc22, kc23, kc24, kc25, kc26, kc27, kc28, kc29, kc30, kc31, kc32, kc33] at q4
      iterate 5 (refine hX _ ?_; conv => whnf)
      try simp only [kc0, kc1, kc2, kc3, kc4, kc5, kc6, kc7, kc8, kc9, kc10, kc11, kc12, kc13, kc14, kc15, kc16, kc17, kc18, kc19, kc20, kc21, kc22, kc23, kc24, kc25, kc26, kc27, kc28, kc29, kc30, kc31, kc32, kc33]
      try simp (disch := omega) only [bg_w_id, Int.toNat_natCast, rw_land, sh_land, not_true_eq_false, t1, kc0, kc1, kc2, kc3, kc4, kc5, kc6, kc7, kc8, kc9, kc10, kc11, kc12, kc13, kc14, kc15, kc16, kc17, kc18, kc19, kc20, kc21, kc22, kc23, kc24, kc25, kc26, kc27, kc28, kc29, kc30, kc31, kc32, kc33]
      refine hX _ ?_; conv => whnf
      rw [r7, ← pb]
      by_cases c2 : payM h held ≤ lim
      · exact hR1 c2 h ⟨fun _ _ => rfl, fun _ _ => rfl, hc1⟩
      · exact hR2 (by omega) _ (by omega) (by omega) (by omega) h ⟨fun _ _ => rfl, fun _ _ => rfl, hc1⟩
  · rw [if_neg c0] at pb
    have l1 : ∀ w, w ≤ N → ∀ (h' : bg_G) (G : Int) (j8 : Option bg_V), fr41 h h' N → (∃ q, q < N ∧ G = gnM h held q) → (∀ i, i < w → gnM h held i ≤ G) → X (32, [oR 41, oR 22, oI held, oL lim, none, oL G, none, oI (w : Int), j8, none], [], (bg_SH n, h'), (0, 0)) := by
      refine lp_up N _ ?_ (fun w hw ih => ?_)
      · intro h' G j8 f ⟨q, q1, q2⟩ hG
        have e41 : h' 41 5 = N := by rw [f.2.1 5 (by omega)]; exact t1
        have g1 := gr q q1
        have bi := bw_is (g := gnM h held) (fun w hw => by have := gr w hw; omega) q1 q2 hG
        rw [bi] at pb
        iterate 3 (refine hX _ ?_; conv => whnf)
        try simp only [kc0, kc1, kc2, kc3, kc4, kc5, kc6, kc7, kc8, kc9, kc10, kc11, kc12, kc13, kc14, kc15, kc16, kc17, kc18, kc19, kc20, kc21, kc22, kc23, kc24, kc25, kc26, kc27, kc28, kc29, kc30, kc31, kc32, kc33]
        refine hX _ ?_; conv => whnf
        refine ⟨fun q38 => ?_, fun q38 => ?_⟩
        · try simp (disch := omega) only [bg_w_id, Int.toNat_natCast, rw_land, sh_land, not_true_eq_false, e41, kc0, kc1, kc2, kc3, kc4, kc5, kc6, kc7, kc8, kc9, kc10, kc11, kc12, kc13, kc14, kc15, kc16, kc17, kc18, kc19, kc20, kc21, kc22, kc23, kc24, kc25, kc26, kc27, kc28, kc29, kc30, kc31, kc32, kc33] at q38
          refine hX _ ?_; conv => whnf
          refine hX _ ?_; conv => whnf
          by_cases c2 : payM h held ≤ lim
          · have := hR1 c2 h' f
            rw [pb] at this
            exact this
          · exact hR2 (by omega) _ (by omega) (by omega) (by omega) h' f
        · exfalso
          (try simp (disch := omega) only [bg_w_id, Int.toNat_natCast, rw_land, sh_land, not_true_eq_false, e41, kc0, kc1, kc2, kc3, kc4, kc5, kc6, kc7, kc8, kc9, kc10, kc11, kc12, kc13, kc14, kc15, kc16, kc17, kc18, kc19, kc20, kc21, kc22, kc23, kc24, kc25, kc26, kc27, kc28, kc29, kc30, kc31, kc32, kc33] at q38) <;> (omega)
      · intro h' G j8 f ⟨q, q1, q2⟩ hG
        have e41 : h' 41 5 = N := by rw [f.2.1 5 (by omega)]; exact t1
        obtain ⟨u1, u2, u3⟩ := t3 w hw
        have g1 := gr q q1
        have g2 := gr w hw
        have ub := bw_ub (g := gnM h held) N q q1
        have eg := ge w hw h' f.1
        have nxt : ∀ G' : Int, G ≤ G' → gnM h held w ≤ G' → ∀ i, i < w + 1 → gnM h held i ≤ G' := fun G' a b i hi => by
          by_cases e : i = w
          · rw [e]; exact b
          · exact Int.le_trans (hG i (by omega)) a
        iterate 3 (refine hX _ ?_; conv => whnf)
        try simp only [kc0, kc1, kc2, kc3, kc4, kc5, kc6, kc7, kc8, kc9, kc10, kc11, kc12, kc13, kc14, kc15, kc16, kc17, kc18, kc19, kc20, kc21, kc22, kc23, kc24, kc25, kc26, kc27, kc28, kc29, kc30, kc31, kc32, kc33]
        refine hX _ ?_; conv => whnf
        refine ⟨fun q38 => ?_, fun q38 => ?_⟩
        · exfalso
          (try simp (disch := omega) only [bg_w_id, Int.toNat_natCast, rw_land, sh_land, not_true_eq_false, e41, kc0, kc1, kc2, kc3, kc4, kc5, kc6, kc7, kc8, kc9, kc10, kc11, kc12, kc13, kc14, kc15, kc16, kc17, kc18, kc19, kc20, kc21, kc22, kc23, kc24, kc25, kc26, kc27, kc28, kc29, kc30, kc31, kc32, kc33] at q38) <;> (omega)
        · try simp (disch := omega) only [bg_w_id, Int.toNat_natCast, rw_land, sh_land, not_true_eq_false, e41, kc0, kc1, kc2, kc3, kc4, kc5, kc6, kc7, kc8, kc9, kc10, kc11, kc12, kc13, kc14, kc15, kc16, kc17, kc18, kc19, kc20, kc21, kc22, kc23, kc24, kc25, kc26, kc27, kc28, kc29, kc30, kc31, kc32, kc33] at q38
          iterate 2 (refine hX _ ?_; conv => whnf)
          refine hX _ ?_; conv => whnf
          refine ⟨fun q46 => ?_, fun q46 => ?_⟩
          · exfalso
            (try simp (disch := omega) only [bg_w_id, Int.toNat_natCast, rw_land, sh_land, not_true_eq_false, e41, kc0, kc1, kc2, kc3, kc4, kc5, kc6, kc7, kc8, kc9, kc10, kc11, kc12, kc13, kc14, kc15, kc16, kc17, kc18, kc19, kc20, kc21, kc22, kc23, kc24, kc25, kc26, kc27, kc28, kc29, kc30, kc31, kc32, kc33] at q46) <;> (omega)
          · try simp (disch := omega) only [bg_w_id, Int.toNat_natCast, rw_land, sh_land, not_true_eq_false, e41, kc0, kc1, kc2, kc3, kc4, kc5, kc6, kc7, kc8, kc9, kc10, kc11, kc12, kc13, kc14, kc15, kc16, kc17, kc18, kc19, kc20, kc21, kc22, kc23, kc24, kc25, kc26, kc27, kc28, kc29, kc30, kc31, kc32, kc33] at q46
            iterate 3 (refine hX _ ?_; conv => whnf)
            refine hX _ ?_; conv => whnf
            refine ⟨fun q53 => ?_, fun q53 => ?_⟩
            · try simp (disch := omega) only [bg_w_id, Int.toNat_natCast, rw_land, sh_land, not_true_eq_false, e41, kc0, kc1, kc2, kc3, kc4, kc5, kc6, kc7, kc8, kc9, kc10, kc11, kc12, kc13, kc14, kc15, kc16, kc17, kc18, kc19, kc20, kc21, kc22, kc23, kc24, kc25, kc26, kc27, kc28, kc29, kc30, kc31, kc32, kc33] at q53
              rw [bg_Cmp_gt, bg_W_id (by omega) (by omega), bg_W_id (by omega) (by omega)] at q53
              refine hX _ ?_; conv => whnf
              refine hX _ ?_; conv => whnf
              exact hR2 (by omega) _ q53 (by omega) (by omega) h' f
            · try simp (disch := omega) only [bg_w_id, Int.toNat_natCast, rw_land, sh_land, not_true_eq_false, e41, kc0, kc1, kc2, kc3, kc4, kc5, kc6, kc7, kc8, kc9, kc10, kc11, kc12, kc13, kc14, kc15, kc16, kc17, kc18, kc19, kc20, kc21, kc22, kc23, kc24, kc25, kc26, kc27, kc28, kc29, kc30, kc31, kc32, kc33] at q53
              rw [bg_Cmp_gt, bg_W_id (by omega) (by omega), bg_W_id (by omega) (by omega)] at q53
              iterate 4 (refine hX _ ?_; conv => whnf)
              refine hX _ ?_; conv => whnf
              try simp (disch := omega) only [bg_w_id, Int.toNat_natCast, rw_land, sh_land, not_true_eq_false, e41]
              refine s_gainOf d n w (lenW (wsM h) w) (ptW (wsM h) w) held h' (okC_fr ho (fun k a b => f.1 k (by omega))) (by omega) (by rw [f.1 43 (by omega)]; exact u2) (by omega) (fun i hi => by rw [f.1 42 (by omega)]; exact u3 i hi) (ce w hw h' f.1) _ ?_
              rw [eg]
              conv => whnf
              iterate 4 (refine hX _ ?_; conv => whnf)
              refine hX _ ?_; conv => whnf
              refine ⟨fun q71 => ?_, fun q71 => ?_⟩
              · try simp (disch := omega) only [bg_w_id, Int.toNat_natCast, rw_land, sh_land, not_true_eq_false, e41, kc0, kc1, kc2, kc3, kc4, kc5, kc6, kc7, kc8, kc9, kc10, kc11, kc12, kc13, kc14, kc15, kc16, kc17, kc18, kc19, kc20, kc21, kc22, kc23, kc24, kc25, kc26, kc27, kc28, kc29, kc30, kc31, kc32, kc33] at q71
                rw [bg_Cmp_gt, bg_W_id (by omega) (by omega), bg_W_id (by omega) (by omega)] at q71
                iterate 2 (refine hX _ ?_; conv => whnf)
                first
                | exact ih _ _ _ f ⟨q, q1, q2⟩ (nxt G (by omega) (by omega))
                | exact ih _ _ _ ⟨fun k hk => by rw [bg_up_ne hk]; exact f.1 k hk, fun j hj => by rw [bg_up_nj hj]; exact f.2.1 j hj, by rw [bg_up_self]; omega⟩ ⟨w, hw, rfl⟩ (nxt _ (by omega) (Int.le_refl _))
              · try simp (disch := omega) only [bg_w_id, Int.toNat_natCast, rw_land, sh_land, not_true_eq_false, e41, kc0, kc1, kc2, kc3, kc4, kc5, kc6, kc7, kc8, kc9, kc10, kc11, kc12, kc13, kc14, kc15, kc16, kc17, kc18, kc19, kc20, kc21, kc22, kc23, kc24, kc25, kc26, kc27, kc28, kc29, kc30, kc31, kc32, kc33] at q71
                rw [bg_Cmp_gt, bg_W_id (by omega) (by omega), bg_W_id (by omega) (by omega)] at q71
                iterate 7 (refine hX _ ?_; conv => whnf)
                try simp only [kc0, kc1, kc2, kc3, kc4, kc5, kc6, kc7, kc8, kc9, kc10, kc11, kc12, kc13, kc14, kc15, kc16, kc17, kc18, kc19, kc20, kc21, kc22, kc23, kc24, kc25, kc26, kc27, kc28, kc29, kc30, kc31, kc32, kc33]
                first
                | exact ih _ _ _ f ⟨q, q1, q2⟩ (nxt G (by omega) (by omega))
                | exact ih _ _ _ ⟨fun k hk => by rw [bg_up_ne hk]; exact f.1 k hk, fun j hj => by rw [bg_up_nj hj]; exact f.2.1 j hj, by rw [bg_up_self]; omega⟩ ⟨w, hw, rfl⟩ (nxt _ (by omega) (Int.le_refl _))
    obtain ⟨q, e414, hq⟩ : ∃ q : Nat, h 41 4 = q ∧ q < N := ⟨(h 41 4).toNat, by omega, by omega⟩
    obtain ⟨u1, u2, u3⟩ := t3 q hq
    have eg := ge q hq h (fun _ _ => rfl)
    iterate 2 (refine hX _ ?_; conv => whnf)
    try simp only [kc0, kc1, kc2, kc3, kc4, kc5, kc6, kc7, kc8, kc9, kc10, kc11, kc12, kc13, kc14, kc15, kc16, kc17, kc18, kc19, kc20, kc21, kc22, kc23, kc24, kc25, kc26, kc27, kc28, kc29, kc30, kc31, kc32, kc33]
    refine hX _ ?_; conv => whnf
    refine ⟨fun q4 => ?_, fun q4 => ?_⟩
    · try simp (disch := omega) only [bg_w_id, Int.toNat_natCast, rw_land, sh_land, not_true_eq_false, t1, e414, kc0, kc1, kc2, kc3, kc4, kc5, kc6, kc7, kc8, kc9, kc10, kc11, kc12, kc13, kc14, kc15, kc16, kc17, kc18, kc19, kc20, kc21, kc22, kc23, kc24, kc25, kc26, kc27, kc28, kc29, kc30, kc31, kc32, kc33] at q4
      iterate 5 (refine hX _ ?_; conv => whnf)
      try simp only [kc0, kc1, kc2, kc3, kc4, kc5, kc6, kc7, kc8, kc9, kc10, kc11, kc12, kc13, kc14, kc15, kc16, kc17, kc18, kc19, kc20, kc21, kc22, kc23, kc24, kc25, kc26, kc27, kc28, kc29, kc30, kc31, kc32, kc33]
      refine hX _ ?_; conv => whnf
      try simp (disch := omega) only [bg_w_id, Int.toNat_natCast, rw_land, sh_land, not_true_eq_false, t1, e414]
      refine s_gainOf d n q (lenW (wsM h) q) (ptW (wsM h) q) held h ho (by omega) u2 (by omega) u3 (ce q hq h (fun _ _ => rfl)) _ ?_
      rw [eg]
      conv => whnf
      iterate 3 (refine hX _ ?_; conv => whnf)
      exact l1 0 (by omega) h _ _ ⟨fun _ _ => rfl, fun _ _ => rfl, hc1⟩ ⟨q, hq, rfl⟩ (fun i hi => absurd hi (by omega))
    · exfalso
      (try simp (disch := omega) only [bg_w_id, Int.toNat_natCast, rw_land, sh_land, not_true_eq_false, t1, e414, kc0, kc1, kc2, kc3, kc4, kc5, kc6, kc7, kc8, kc9, kc10, kc11, kc12, kc13, kc14, kc15, kc16, kc17, kc18, kc19, kc20, kc21, kc22, kc23, kc24, kc25, kc26, kc27, kc28, kc29, kc30, kc31, kc32, kc33] at q4) <;> (omega)
theorem fr45_ws {h h' : bg_G} (hf : fr45 h h') : wsM h' = wsM h := by
  unfold wsM
  rw [hf 117 (by omega), hf 118 (by omega)]
theorem fr45_pay {h h' : bg_G} (hf : fr45 h h') (s : Int) : payM h' s = payM h s := by
  unfold payM bwM
  rw [gnM_fr (hf 117 (by omega)) (hf 118 (by omega)) (hf 121 (by omega)), fr45_ws hf, hf 121 (by omega)]
theorem fr45_tbl {h h' : bg_G} (hf : fr45 h h') {N : Nat} {len : Nat → Nat} {pt : Nat → Nat → Nat} (ht : tblC h N len pt) : tblC h' N len pt := by
  unfold tblC
  rw [hf 41 (by omega), hf 42 (by omega), hf 43 (by omega)]
  exact ht
theorem fw_REL {h h' : bg_G} (hf : fr41w h h') (hr : REL h) : REL h' := by
  obtain ⟨a1, a2, a3, a4, a5, a6, a7⟩ := hr
  refine ⟨okC_fr a1 (fun k a b => hf k (by omega)), okM_fr a2 (hf _ (by omega)) (hf _ (by omega)) (hf _ (by omega)) (hf _ (by omega)) (hf _ (by omega)), ?_, ?_, ?_, ?_, ?_⟩
  · intro t ht
    rw [hf 119 (by omega)] at ht
    rw [hf 120 (by omega), hf 117 (by omega)]
    exact a3 t ht
  · rw [hf 22 (by omega), hf 117 (by omega), hf 119 (by omega), hf 121 (by omega)]
    exact a4
  · intro p hp i h0 h7
    rw [hf 117 (by omega)] at hp
    have hp2 := a2.1.1
    rw [hf (24 + p) (by omega), hf 118 (by omega)]
    exact a5 p hp i h0 h7
  · intro p hp hp2 i h0 h7
    rw [hf 117 (by omega)] at hp
    rw [hf (24 + p) (by omega)]
    exact a6 p hp hp2 i h0 h7
  · intro t ht
    rw [hf 119 (by omega)] at ht
    rw [hf 36 (by omega), hf 37 (by omega), hf 120 (by omega)]
    exact a7 t ht
theorem fw_ws {h h' : bg_G} (hf : fr41w h h') : wsM h' = wsM h := by
  unfold wsM
  rw [hf 117 (by omega), hf 118 (by omega)]
theorem fw_pay {h h' : bg_G} (hf : fr41w h h') (s : Int) : payM h' s = payM h s := by
  unfold payM bwM
  rw [gnM_fr (hf 117 (by omega)) (hf 118 (by omega)) (hf 121 (by omega)), fw_ws hf, hf 121 (by omega)]
theorem fw_tbl {h h' : bg_G} (hf : fr41w h h') (e : ∀ j, j ≠ 4 → h' 41 j = h 41 j) {N : Nat} {len : Nat → Nat} {pt : Nat → Nat → Nat} (ht : tblC h N len pt) : tblC h' N len pt := by
  unfold tblC
  rw [e 5 (by omega), hf 42 (by omega), hf 43 (by omega)]
  exact ht
theorem fw_crT {h h' : bg_G} (hf : fr41w h h') {N : Nat} {len : Nat → Nat} {pt : Nat → Nat → Nat} (e : 0 ≤ h' 41 4 ∧ (h' 41 4 = 0 ∨ h' 41 4 < N)) (ht : tblC h N len pt) (hc : crT h N len pt) : crT h' N len pt := ⟨e, fun w hw => by
  rw [hf 44 (by omega), hc.2 w hw]
  exact sm_congr (fun i hi => by
    have := ((ht.2.2 w hw).2.2 i hi).1
    rw [hf (24 + pt w i) (by omega)])⟩
/-- so far in the search for what pays least -/
def fl (h h' : bg_G) (N : Nat) : Prop := (∀ k, k ≠ 41 → k ≠ 46 → h' k = h k) ∧ (∀ j, j ≠ 4 → h' 41 j = h 41 j) ∧ (0 ≤ h' 41 4 ∧ (h' 41 4 = 0 ∨ h' 41 4 < N))
def frP (h h' : bg_G) (N : Nat) : Prop := fr41w h h' ∧ (∀ j, j ≠ 4 → h' 41 j = h 41 j) ∧ (0 ≤ h' 41 4 ∧ (h' 41 4 = 0 ∨ h' 41 4 < N))
theorem s_leastPaying (d n : Nat) (h0 h : bg_G) (hr : REL h0) (hf : fr45 h0 h) (hp : PLN h0 h) (ht : tblC h0 (wsM h0).length (lenW (wsM h0)) (ptW (wsM h0))) (hc : crT h0 (wsM h0).length (lenW (wsM h0)) (ptW (wsM h0))) (h9 : h 46 9 = 0 ∨ (h 46 9 = 1 ∧ h 46 8 = ((lpM h0 (setsM h0) : Nat) : Int))) (Rt : bg_R) (hR : ∀ h' : bg_G, frP h h' (wsM h0).length → (∀ j, j ≠ 8 → j ≠ 9 → h' 46 j = h 46 j) → (∀ k, 46 < k → h' k = h k) → h' 46 9 = 1 → h' 46 8 = ((lpM h0 (setsM h0) : Nat) : Int) → Rt (some (.inl ((lpM h0 (setsM h0) : Nat) : Int))) (bg_SH n, h')) : bg_Ca bg_MS (d + 4) 58 [vR 46, vR 22, vR 41] (bg_SH n, h) Rt := by
  have ho := hr.2.1
  have hn := ho.1
  obtain ⟨N, eN⟩ : ∃ N : Nat, N = (h0 117 0).toNat := ⟨_, rfl⟩
  have hM : 2 ^ N ≤ 4096 := (show 2 ^ N ≤ 2 ^ 12 from Nat.pow_le_pow_right (by decide) (by omega))
  obtain ⟨p1, p2, p3, p4⟩ := hp
  rw [← eN] at p1 p2
  have hard : 0 ≤ h 41 4 ∧ (h 41 4 = 0 ∨ h 41 4 < (wsM h0).length) := by rw [hf 41 (by omega)]; exact hc.1
  refine bg_ca (cd := cd_X4_leastPaying) rfl rfl ?_
  intro X hX
  rcases h9 with h9 | ⟨h9, h8⟩
  · have l1 : ∀ q : Nat, q ≤ 2 ^ N → ∀ (h' : bg_G) (L fp : Int) (j6 j7 j9 : Option bg_V), fl h h' (wsM h0).length → (∀ j, j ≠ 8 → h' 46 j = h 46 j) → lsI h0 (fun s => payM h0 (heldM h0 s)) fp L q → ((fp = -1 ∧ L = 9223372036854775807 ∧ h' 46 8 = 0) ∨ (0 ≤ fp ∧ fp < 32768 ∧ fp = h' 46 8 ∧ -100000000000000000 ≤ L ∧ L ≤ 100000000000000000)) → X (24, [oR 46, oR 22, oR 41, oL L, none, oI (q : Int), j6, j7, none, j9, none], [], (bg_SH n, h'), (0, 0)) := by
      refine lp_up (2 ^ N) _ ?_ (fun q hq ih => ?_)
      · intro h' L fp j6 j7 j9 f1 f2 f3 f4
        have e6 : h' 46 6 = ((2 ^ N : Nat) : Int) := by rw [f2 6 (by omega), p1]
        have fe := lsI_end hr (by rw [← eN]; exact f3)
        have e8 : h' 46 8 = ((lpM h0 (setsM h0) : Nat) : Int) := by
          have : fp = ((lpM h0 (setsM h0) : Nat) : Int) := fe.1
          omega
        iterate 3 (refine hX _ ?_; conv => whnf)
        try simp only [kc0, kc1, kc2, kc3, kc4, kc5, kc6, kc7, kc8, kc9, kc10, kc11, kc12, kc13, kc14, kc15, kc16, kc17, kc18, kc19, kc20, kc21, kc22, kc23, kc24, kc25, kc26, kc27, kc28, kc29, kc30, kc31, kc32, kc33]
        refine hX _ ?_; conv => whnf
        refine ⟨fun q30 => ?_, fun q30 => ?_⟩
        · try simp (disch := omega) only [bg_w_id, Int.toNat_natCast, rw_land, sh_land, not_true_eq_false, e6, kc0, kc1, kc2, kc3, kc4, kc5, kc6, kc7, kc8, kc9, kc10, kc11, kc12, kc13, kc14, kc15, kc16, kc17, kc18, kc19, kc20, kc21, kc22, kc23, kc24, kc25, kc26, kc27, kc28, kc29, kc30, kc31, kc32, kc33] at q30
          iterate 2 (refine hX _ ?_; conv => whnf)
          refine hX _ ?_; conv => whnf
          refine ⟨by first | exact Or.inr rfl | exact Or.inl rfl | omega, ?_⟩
          iterate 2 (refine hX _ ?_; conv => whnf)
          try simp only [kc0, kc1, kc2, kc3, kc4, kc5, kc6, kc7, kc8, kc9, kc10, kc11, kc12, kc13, kc14, kc15, kc16, kc17, kc18, kc19, kc20, kc21, kc22, kc23, kc24, kc25, kc26, kc27, kc28, kc29, kc30, kc31, kc32, kc33]
          refine hX _ ?_; conv => whnf
          have hR := hR (bg_up h' 46 9 1) ⟨fun k hk => by rw [bg_up_ne (by omega), f1.1 k (by omega) (by omega)], fun j hj => by rw [bg_up_ne (by omega)]; exact f1.2.1 j hj, by rw [bg_up_ne (by omega)]; exact f1.2.2⟩ (fun j j1 j2 => by rw [bg_up_nj j2]; exact f2 j j1) (fun k hk => by rw [bg_up_ne (by omega), f1.1 k (by omega) (by omega)]) (bg_up_self _ _ _ _) (by rw [bg_up_nj (by omega)]; exact e8)
          rw [← e8, ← bg_up_nj (h := h') (k := 46) (i := 9) (v := 1) (j := 8) (by omega)] at hR
          exact hR
        · exfalso
          (try simp (disch := omega) only [bg_w_id, Int.toNat_natCast, rw_land, sh_land, not_true_eq_false, e6, kc0, kc1, kc2, kc3, kc4, kc5, kc6, kc7, kc8, kc9, kc10, kc11, kc12, kc13, kc14, kc15, kc16, kc17, kc18, kc19, kc20, kc21, kc22, kc23, kc24, kc25, kc26, kc27, kc28, kc29, kc30, kc31, kc32, kc33] at q30) <;> (omega)
      · intro h' L fp j6 j7 j9 f1 f2 f3 f4
        have e6 : h' 46 6 = ((2 ^ N : Nat) : Int) := by rw [f2 6 (by omega), p1]
        have e47 : h' 48 q = h 48 q := by rw [f1.1 48 (by omega) (by omega)]
        have ff : fr41w h0 h' := fun k hk => by rw [f1.1 k (by omega) (by omega)]; exact hf k (by omega)
        have f41 : ∀ j, j ≠ 4 → h' 41 j = h0 41 j := fun j hj => by rw [f1.2.1 j hj, hf 41 (by omega)]
        rcases p3 q (by rw [← eN]; exact hq) with ⟨x1, x2⟩ | ⟨s, x1, x2, x3⟩
        · have y1 : h' 48 q = -1 := by rw [e47, x1]
          iterate 3 (refine hX _ ?_; conv => whnf)
          try simp only [kc0, kc1, kc2, kc3, kc4, kc5, kc6, kc7, kc8, kc9, kc10, kc11, kc12, kc13, kc14, kc15, kc16, kc17, kc18, kc19, kc20, kc21, kc22, kc23, kc24, kc25, kc26, kc27, kc28, kc29, kc30, kc31, kc32, kc33]
          refine hX _ ?_; conv => whnf
          refine ⟨fun q30 => ?_, fun q30 => ?_⟩
          · exfalso
            (try simp (disch := omega) only [bg_w_id, Int.toNat_natCast, rw_land, sh_land, not_true_eq_false, e6, kc0, kc1, kc2, kc3, kc4, kc5, kc6, kc7, kc8, kc9, kc10, kc11, kc12, kc13, kc14, kc15, kc16, kc17, kc18, kc19, kc20, kc21, kc22, kc23, kc24, kc25, kc26, kc27, kc28, kc29, kc30, kc31, kc32, kc33] at q30) <;> (omega)
          · try simp (disch := omega) only [bg_w_id, Int.toNat_natCast, rw_land, sh_land, not_true_eq_false, e6, kc0, kc1, kc2, kc3, kc4, kc5, kc6, kc7, kc8, kc9, kc10, kc11, kc12, kc13, kc14, kc15, kc16, kc17, kc18, kc19, kc20, kc21, kc22, kc23, kc24, kc25, kc26, kc27, kc28, kc29, kc30, kc31, kc32, kc33] at q30
            iterate 3 (refine hX _ ?_; conv => whnf)
            refine hX _ ?_; conv => whnf
            try (simp (disch := omega) only [bg_w_id, Int.toNat_natCast, rw_land, sh_land, not_true_eq_false, e6]; try conv => whnf)
            refine ⟨by first | omega | (simp (disch := omega) only [bg_w_id, Int.toNat_natCast, rw_land, sh_land, not_true_eq_false, e6]; omega), ?_⟩
            iterate 3 (refine hX _ ?_; conv => whnf)
            refine hX _ ?_; conv => whnf
            refine ⟨fun q45 => ?_, fun q45 => ?_⟩
            · try simp (disch := omega) only [bg_w_id, Int.toNat_natCast, rw_land, sh_land, not_true_eq_false, e6, kc0, kc1, kc2, kc3, kc4, kc5, kc6, kc7, kc8, kc9, kc10, kc11, kc12, kc13, kc14, kc15, kc16, kc17, kc18, kc19, kc20, kc21, kc22, kc23, kc24, kc25, kc26, kc27, kc28, kc29, kc30, kc31, kc32, kc33] at q45
              iterate 2 (refine hX _ ?_; conv => whnf)
              exact ih _ _ _ _ _ _ f1 f2 (lsI_no f3 x2) f4
            · exfalso
              (try simp (disch := omega) only [bg_w_id, Int.toNat_natCast, rw_land, sh_land, not_true_eq_false, e6, kc0, kc1, kc2, kc3, kc4, kc5, kc6, kc7, kc8, kc9, kc10, kc11, kc12, kc13, kc14, kc15, kc16, kc17, kc18, kc19, kc20, kc21, kc22, kc23, kc24, kc25, kc26, kc27, kc28, kc29, kc30, kc31, kc32, kc33] at q45) <;> (omega)
        · have y1 : h' 48 q = (s : Int) := by rw [e47, x2]
          have s32 := x1.1.2
          have hv : ∀ s', aP h0 q s' → payM h0 (heldM h0 s') = payM h0 (heldM h0 s) := fun s' hs' => by rw [hs'.2.2, x1.2.2]
          have ev : payM h0 (heldM h0 s) = payM h0 q := by rw [x1.2.2]
          have pr : -100000000000000000 ≤ payM h0 q ∧ payM h0 q ≤ 100000000000000000 := by
            rw [pay_bw hr ht]
            split
            · omega
            · rename_i c
              rcases bw_2 (gnM h0 q) (wsM h0).length (fun w hw => by
                have := gC_rg hr.1 (held := (q : Int)) ht hw
                rw [g_eq hr hw] at this
                omega) with ⟨a, b, c⟩ | ⟨a, b, c⟩
              · exact absurd b (by assumption)
              · rw [c]
                have := gC_rg hr.1 (held := (q : Int)) ht (w := (bw (gnM h0 q) (wsM h0).length).1.toNat) (by omega)
                rw [g_eq hr (by omega)] at this
                exact this
          have tb : tblC h' (wsM h').length (lenW (wsM h')) (ptW (wsM h')) := by rw [fw_ws ff]; exact fw_tbl ff f41 ht
          have cr : crT h' (wsM h').length (lenW (wsM h')) (ptW (wsM h')) := by rw [fw_ws ff]; exact fw_crT ff f1.2.2 ht hc
          have fl2 : ∀ h2 : bg_G, fr41 h' h2 (wsM h0).length → fl h h2 (wsM h0).length := fun h2 g => ⟨fun k k1 k2 => by rw [g.1 k k1]; exact f1.1 k k1 k2, fun j hj => by rw [g.2.1 j hj]; exact f1.2.1 j hj, g.2.2⟩
          have up : ∀ (h2 : bg_G) (j6 j7 j9 : Option bg_V), fr41 h' h2 (wsM h0).length → (fp = -1 ∨ payM h0 q < L ∨ (payM h0 q = L ∧ (s : Int) < fp)) → X (24, [oR 46, oR 22, oR 41, oL (payM h0 q), none, oI ((q : Int) + 1), j6, j7, none, j9, none], [], (bg_SH n, bg_up h2 46 8 s), (0, 0)) := by
            intro h2 j6 j7 j9 g hc
            have ln := lsI_new f3 x1 x3 hv (by rw [ev]; exact hc)
            rw [ev] at ln
            have g2 := fl2 h2 g
            exact ih _ _ _ _ _ _ ⟨fun k k1 k2 => by rw [bg_up_ne k2]; exact g2.1 k k1 k2, fun j hj => by rw [bg_up_ne (by omega)]; exact g2.2.1 j hj, by rw [bg_up_ne (by omega)]; exact g2.2.2⟩ (fun j hj => by rw [bg_up_nj hj, g.1 46 (by omega)]; exact f2 j hj) ln (Or.inr ⟨by omega, by omega, (bg_up_self _ _ _ _).symm, pr.1, pr.2⟩)
          have dn : ∀ (h2 : bg_G) (j6 j7 j9 : Option bg_V), fr41 h' h2 (wsM h0).length → fp ≠ -1 → (L < payM h0 q ∨ (payM h0 q = L ∧ fp ≤ (s : Int))) → X (24, [oR 46, oR 22, oR 41, oL L, none, oI ((q : Int) + 1), j6, j7, none, j9, none], [], (bg_SH n, h2), (0, 0)) := by
            intro h2 j6 j7 j9 g h1 hc
            exact ih _ _ _ _ _ _ (fl2 h2 g) (fun j hj => by rw [g.1 46 (by omega)]; exact f2 j hj) (lsI_old f3 x1 x3 hv h1 (by rw [ev]; exact hc)) (by rw [g.1 46 (by omega)]; exact f4)
          have nx : ∀ (lim : Int) (j7 j9 : Option bg_V), (((s : Int) < h' 46 8 ∧ lim = L) ∨ (¬ (s : Int) < h' 46 8 ∧ lim = L - 1)) → X (64, [oR 46, oR 22, oR 41, oL L, none, oI (q : Int), oI (s : Int), j7, none, j9, none], [.inr (.inl lim)], (bg_SH n, h'), (0, 0)) := by
            intro lim j7 j9 hl
            by_cases c : payM h0 q ≤ lim
            · iterate 5 (refine hX _ ?_; conv => whnf)
              refine hX _ ?_; conv => whnf
              try simp (disch := omega) only [bg_w_id, Int.toNat_natCast, rw_land, sh_land, not_true_eq_false]
              refine s_greatestGain d n q lim (by omega) h' (fw_REL ff hr) tb cr _ (fun _ h2 g => ?_) (fun e => absurd e (by rw [fw_pay ff]; omega))
              rw [fw_ws ff] at g
              rw [fw_pay ff]
              conv => whnf
              iterate 4 (refine hX _ ?_; conv => whnf)
              refine hX _ ?_; conv => whnf
              refine ⟨fun q82 => ?_, fun q82 => ?_⟩
              · try simp (disch := omega) only [bg_w_id, Int.toNat_natCast, rw_land, sh_land, not_true_eq_false, kc0, kc1, kc2, kc3, kc4, kc5, kc6, kc7, kc8, kc9, kc10, kc11, kc12, kc13, kc14, kc15, kc16, kc17, kc18, kc19, kc20, kc21, kc22, kc23, kc24, kc25, kc26, kc27, kc28, kc29, kc30, kc31, kc32, kc33] at q82
                rw [bg_Cmp_gt, bg_W_id (by omega) (by omega), bg_W_id (by omega) (by omega)] at q82
                iterate 2 (refine hX _ ?_; conv => whnf)
                first
                | (exfalso; omega)
                | exact up _ _ _ _ g (by omega)
              · try simp (disch := omega) only [bg_w_id, Int.toNat_natCast, rw_land, sh_land, not_true_eq_false, kc0, kc1, kc2, kc3, kc4, kc5, kc6, kc7, kc8, kc9, kc10, kc11, kc12, kc13, kc14, kc15, kc16, kc17, kc18, kc19, kc20, kc21, kc22, kc23, kc24, kc25, kc26, kc27, kc28, kc29, kc30, kc31, kc32, kc33] at q82
                rw [bg_Cmp_gt, bg_W_id (by omega) (by omega), bg_W_id (by omega) (by omega)] at q82
                iterate 7 (refine hX _ ?_; conv => whnf)
                try simp only [kc0, kc1, kc2, kc3, kc4, kc5, kc6, kc7, kc8, kc9, kc10, kc11, kc12, kc13, kc14, kc15, kc16, kc17, kc18, kc19, kc20, kc21, kc22, kc23, kc24, kc25, kc26, kc27, kc28, kc29, kc30, kc31, kc32, kc33]
                first
                | (exfalso; omega)
                | exact up _ _ _ _ g (by omega)
            · iterate 5 (refine hX _ ?_; conv => whnf)
              refine hX _ ?_; conv => whnf
              try simp (disch := omega) only [bg_w_id, Int.toNat_natCast, rw_land, sh_land, not_true_eq_false]
              refine s_greatestGain d n q lim (by omega) h' (fw_REL ff hr) tb cr _ (fun e => absurd e (by rw [fw_pay ff]; omega)) (fun _ r r1 r2 r3 h2 g => ?_)
              rw [fw_ws ff] at g
              conv => whnf
              iterate 4 (refine hX _ ?_; conv => whnf)
              refine hX _ ?_; conv => whnf
              refine ⟨fun q82 => ?_, fun q82 => ?_⟩
              · try simp (disch := omega) only [bg_w_id, Int.toNat_natCast, rw_land, sh_land, not_true_eq_false, kc0, kc1, kc2, kc3, kc4, kc5, kc6, kc7, kc8, kc9, kc10, kc11, kc12, kc13, kc14, kc15, kc16, kc17, kc18, kc19, kc20, kc21, kc22, kc23, kc24, kc25, kc26, kc27, kc28, kc29, kc30, kc31, kc32, kc33] at q82
                rw [bg_Cmp_gt, bg_W_id (by omega) (by omega), bg_W_id (by omega) (by omega)] at q82
                iterate 2 (refine hX _ ?_; conv => whnf)
                first
                | (exfalso; omega)
                | exact dn _ _ _ _ g (by omega) (by omega)
              · try simp (disch := omega) only [bg_w_id, Int.toNat_natCast, rw_land, sh_land, not_true_eq_false, kc0, kc1, kc2, kc3, kc4, kc5, kc6, kc7, kc8, kc9, kc10, kc11, kc12, kc13, kc14, kc15, kc16, kc17, kc18, kc19, kc20, kc21, kc22, kc23, kc24, kc25, kc26, kc27, kc28, kc29, kc30, kc31, kc32, kc33] at q82
                rw [bg_Cmp_gt, bg_W_id (by omega) (by omega), bg_W_id (by omega) (by omega)] at q82
                iterate 7 (refine hX _ ?_; conv => whnf)
                try simp only [kc0, kc1, kc2, kc3, kc4, kc5, kc6, kc7, kc8, kc9, kc10, kc11, kc12, kc13, kc14, kc15, kc16, kc17, kc18, kc19, kc20, kc21, kc22, kc23, kc24, kc25, kc26, kc27, kc28, kc29, kc30, kc31, kc32, kc33]
                first
                | (exfalso; omega)
                | exact dn _ _ _ _ g (by omega) (by omega)
          iterate 3 (refine hX _ ?_; conv => whnf)
          try simp only [kc0, kc1, kc2, kc3, kc4, kc5, kc6, kc7, kc8, kc9, kc10, kc11, kc12, kc13, kc14, kc15, kc16, kc17, kc18, kc19, kc20, kc21, kc22, kc23, kc24, kc25, kc26, kc27, kc28, kc29, kc30, kc31, kc32, kc33]
          refine hX _ ?_; conv => whnf
          refine ⟨fun q30 => ?_, fun q30 => ?_⟩
          · exfalso
            (try simp (disch := omega) only [bg_w_id, Int.toNat_natCast, rw_land, sh_land, not_true_eq_false, e6, y1, kc0, kc1, kc2, kc3, kc4, kc5, kc6, kc7, kc8, kc9, kc10, kc11, kc12, kc13, kc14, kc15, kc16, kc17, kc18, kc19, kc20, kc21, kc22, kc23, kc24, kc25, kc26, kc27, kc28, kc29, kc30, kc31, kc32, kc33] at q30) <;> (omega)
          · try simp (disch := omega) only [bg_w_id, Int.toNat_natCast, rw_land, sh_land, not_true_eq_false, e6, y1, kc0, kc1, kc2, kc3, kc4, kc5, kc6, kc7, kc8, kc9, kc10, kc11, kc12, kc13, kc14, kc15, kc16, kc17, kc18, kc19, kc20, kc21, kc22, kc23, kc24, kc25, kc26, kc27, kc28, kc29, kc30, kc31, kc32, kc33] at q30
            iterate 3 (refine hX _ ?_; conv => whnf)
            refine hX _ ?_; conv => whnf
            try (simp (disch := omega) only [bg_w_id, Int.toNat_natCast, rw_land, sh_land, not_true_eq_false, e6, y1]; try conv => whnf)
            refine ⟨by first | omega | (simp (disch := omega) only [bg_w_id, Int.toNat_natCast, rw_land, sh_land, not_true_eq_false, e6, y1]; omega), ?_⟩
            iterate 3 (refine hX _ ?_; conv => whnf)
            refine hX _ ?_; conv => whnf
            refine ⟨fun q45 => ?_, fun q45 => ?_⟩
            · exfalso
              (try simp (disch := omega) only [bg_w_id, Int.toNat_natCast, rw_land, sh_land, not_true_eq_false, e6, y1, kc0, kc1, kc2, kc3, kc4, kc5, kc6, kc7, kc8, kc9, kc10, kc11, kc12, kc13, kc14, kc15, kc16, kc17, kc18, kc19, kc20, kc21, kc22, kc23, kc24, kc25, kc26, kc27, kc28, kc29, kc30, kc31, kc32, kc33] at q45) <;> (omega)
            · try simp (disch := omega) only [bg_w_id, Int.toNat_natCast, rw_land, sh_land, not_true_eq_false, e6, y1, kc0, kc1, kc2, kc3, kc4, kc5, kc6, kc7, kc8, kc9, kc10, kc11, kc12, kc13, kc14, kc15, kc16, kc17, kc18, kc19, kc20, kc21, kc22, kc23, kc24, kc25, kc26, kc27, kc28, kc29, kc30, kc31, kc32, kc33] at q45
              iterate 3 (refine hX _ ?_; conv => whnf)
              try simp only [kc0, kc1, kc2, kc3, kc4, kc5, kc6, kc7, kc8, kc9, kc10, kc11, kc12, kc13, kc14, kc15, kc16, kc17, kc18, kc19, kc20, kc21, kc22, kc23, kc24, kc25, kc26, kc27, kc28, kc29, kc30, kc31, kc32, kc33]
              refine hX _ ?_; conv => whnf
              refine ⟨fun q54 => ?_, fun q54 => ?_⟩
              · try simp (disch := omega) only [bg_w_id, Int.toNat_natCast, rw_land, sh_land, not_true_eq_false, e6, y1, kc0, kc1, kc2, kc3, kc4, kc5, kc6, kc7, kc8, kc9, kc10, kc11, kc12, kc13, kc14, kc15, kc16, kc17, kc18, kc19, kc20, kc21, kc22, kc23, kc24, kc25, kc26, kc27, kc28, kc29, kc30, kc31, kc32, kc33] at q54
                iterate 3 (refine hX _ ?_; conv => whnf)
                first
                | exact nx _ _ _ (Or.inl ⟨by omega, rfl⟩)
                | exact nx _ _ _ (Or.inr ⟨by omega, rfl⟩)
              · try simp (disch := omega) only [bg_w_id, Int.toNat_natCast, rw_land, sh_land, not_true_eq_false, e6, y1, kc0, kc1, kc2, kc3, kc4, kc5, kc6, kc7, kc8, kc9, kc10, kc11, kc12, kc13, kc14, kc15, kc16, kc17, kc18, kc19, kc20, kc21, kc22, kc23, kc24, kc25, kc26, kc27, kc28, kc29, kc30, kc31, kc32, kc33] at q54
                iterate 2 (refine hX _ ?_; conv => whnf)
                first
                | exact nx _ _ _ (Or.inl ⟨by omega, rfl⟩)
                | exact nx _ _ _ (Or.inr ⟨by omega, rfl⟩)
    iterate 2 (refine hX _ ?_; conv => whnf)
    try simp only [kc0, kc1, kc2, kc3, kc4, kc5, kc6, kc7, kc8, kc9, kc10, kc11, kc12, kc13, kc14, kc15, kc16, kc17, kc18, kc19, kc20, kc21, kc22, kc23, kc24, kc25, kc26, kc27, kc28, kc29, kc30, kc31, kc32, kc33]
    refine hX _ ?_; conv => whnf
    refine ⟨fun q4 => ?_, fun q4 => ?_⟩
    · try simp (disch := omega) only [bg_w_id, Int.toNat_natCast, rw_land, sh_land, not_true_eq_false, kc0, kc1, kc2, kc3, kc4, kc5, kc6, kc7, kc8, kc9, kc10, kc11, kc12, kc13, kc14, kc15, kc16, kc17, kc18, kc19, kc20, kc21, kc22, kc23, kc24, kc25, kc26, kc27, kc28, kc29, kc30, kc31, kc32, kc33] at q4
      iterate 7 (refine hX _ ?_; conv => whnf)
      try simp only [kc0, kc1, kc2, kc3, kc4, kc5, kc6, kc7, kc8, kc9, kc10, kc11, kc12, kc13, kc14, kc15, kc16, kc17, kc18, kc19, kc20, kc21, kc22, kc23, kc24, kc25, kc26, kc27, kc28, kc29, kc30, kc31, kc32, kc33]
      exact l1 0 (Nat.zero_le _) _ _ (-1) _ _ _ ⟨fun k _ hk => bg_up_ne hk, fun j _ => by rw [bg_up_ne (by omega)], by rw [bg_up_ne (by omega)]; exact hard⟩ (fun j hj => bg_up_nj hj) (lsI_0 _ _ _) (Or.inl ⟨rfl, rfl, bg_up_self _ _ _ _⟩)
    · exfalso
      (try simp (disch := omega) only [bg_w_id, Int.toNat_natCast, rw_land, sh_land, not_true_eq_false, kc0, kc1, kc2, kc3, kc4, kc5, kc6, kc7, kc8, kc9, kc10, kc11, kc12, kc13, kc14, kc15, kc16, kc17, kc18, kc19, kc20, kc21, kc22, kc23, kc24, kc25, kc26, kc27, kc28, kc29, kc30, kc31, kc32, kc33] at q4) <;> (omega)
  · iterate 2 (refine hX _ ?_; conv => whnf)
    try simp only [kc0, kc1, kc2, kc3, kc4, kc5, kc6, kc7, kc8, kc9, kc10, kc11, kc12, kc13, kc14, kc15, kc16, kc17, kc18, kc19, kc20, kc21, kc22, kc23, kc24, kc25, kc26, kc27, kc28, kc29, kc30, kc31, kc32, kc33]
    refine hX _ ?_; conv => whnf
    refine ⟨fun q4 => ?_, fun q4 => ?_⟩
    · exfalso
      (try simp (disch := omega) only [bg_w_id, Int.toNat_natCast, rw_land, sh_land, not_true_eq_false, kc0, kc1, kc2, kc3, kc4, kc5, kc6, kc7, kc8, kc9, kc10, kc11, kc12, kc13, kc14, kc15, kc16, kc17, kc18, kc19, kc20, kc21, kc22, kc23, kc24, kc25, kc26, kc27, kc28, kc29, kc30, kc31, kc32, kc33] at q4) <;> (omega)
    · try simp (disch := omega) only [bg_w_id, Int.toNat_natCast, rw_land, sh_land, not_true_eq_false, kc0, kc1, kc2, kc3, kc4, kc5, kc6, kc7, kc8, kc9, kc10, kc11, kc12, kc13, kc14, kc15, kc16, kc17, kc18, kc19, kc20, kc21, kc22, kc23, kc24, kc25, kc26, kc27, kc28, kc29, kc30, kc31, kc32, kc33] at q4
      iterate 2 (refine hX _ ?_; conv => whnf)
      try simp only [kc0, kc1, kc2, kc3, kc4, kc5, kc6, kc7, kc8, kc9, kc10, kc11, kc12, kc13, kc14, kc15, kc16, kc17, kc18, kc19, kc20, kc21, kc22, kc23, kc24, kc25, kc26, kc27, kc28, kc29, kc30, kc31, kc32, kc33]
      refine hX _ ?_; conv => whnf
      have hR := hR h ⟨fun _ _ => rfl, fun _ _ => rfl, hard⟩ (fun _ _ _ => rfl) (fun _ _ => rfl) h9 h8
      rw [← h8] at hR
      exact hR
/-- what pays least is known or not yet looked for -/
def PP (h : bg_G) : Prop := h 46 9 = 0 ∨ (h 46 9 = 1 ∧ h 46 8 = ((lpM h (setsM h) : Nat) : Int))
theorem s_cleastPay (d n : Nat) (h : bg_G) (hr : REL h) (hs : svC h) (hp : PL h) (hq : PP h) (ht : tblC h (wsM h).length (lenW (wsM h)) (ptW (wsM h))) (hc : crT h (wsM h).length (lenW (wsM h)) (ptW (wsM h))) (Rt : bg_R) (hR : ∀ h' : bg_G, frP h h' (wsM h).length → h' 46 7 = 1 → h' 46 9 = 1 → h' 46 8 = ((lpM h (setsM h) : Nat) : Int) → PLN h h' → Rt (some (.inl ((lpM h (setsM h) : Nat) : Int))) (bg_SH n, h')) : bg_Ca bg_MS (d + 5) 97 [vR 2] (bg_SH n, h) Rt := by
  refine bg_ca (cd := cd_X8_leastPay) rfl rfl ?_
  intro X hX
  iterate 6 (refine hX _ ?_; conv => whnf)
  refine hX _ ?_; conv => whnf
  try simp (disch := omega) only [bg_w_id, Int.toNat_natCast, rw_land, sh_land, not_true_eq_false]
  refine s_cprep d n h hr hs hp _ (fun h1 f1 f2 f3 f4 f5 => ?_)
  conv => whnf
  iterate 6 (refine hX _ ?_; conv => whnf)
  refine hX _ ?_; conv => whnf
  try simp (disch := omega) only [bg_w_id, Int.toNat_natCast, rw_land, sh_land, not_true_eq_false]
  refine s_leastPaying d n h h1 hr f1 f5 ht hc (by rw [f3, f4]; exact hq) _ (fun h2 g1 g2 g3 g4 g5 => ?_)
  conv => whnf
  refine hX _ ?_; conv => whnf
  exact hR h2 ⟨fun k hk => by rw [g1.1 k hk]; exact f1 k (by omega), fun j hj => by rw [g1.2.1 j hj, f1 41 (by omega)], g1.2.2⟩ (by rw [g2 7 (by omega) (by omega)]; exact f2) g4 g5 (PLN_fr f5 (g2 6 (by omega) (by omega)) (g3 47 (by omega)) (g3 48 (by omega)) (g3 51 (by omega)) (g3 52 (by omega)))
