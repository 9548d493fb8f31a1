/-! the model reads the text into its book 3 -/
def txM (h : bg_G) (T : Int → Int) (L : Nat) : Prop := h 115 0 = L ∧ L ≤ 400 ∧ ∀ i : Nat, i < L → h 116 i = T i ∧ 0 ≤ T i ∧ T i ≤ 255
theorem byt_rg {h : bg_G} {T : Int → Int} {L : Nat} (ht : txM h T L) (k : Nat) : 0 ≤ byt T L k ∧ byt T L k ≤ 255 := by
  unfold byt
  split
  · exact (ht.2.2 k (by assumption)).2
  · omega
theorem s_mbyteAt (d n k L : Nat) (T : Int → Int) (h : bg_G) (ht : txM h T L) (hk : k ≤ 10000) (Rt : bg_R) (hR : Rt (some (.inl (byt T L k))) (bg_SH n, h)) : bg_Ca bg_MS (d + 1) 119 [vR 115, vI k] (bg_SH n, h) Rt := by
  obtain ⟨t1, t2, t3⟩ := ht
  unfold byt at hR
  refine bg_ca (cd := cd_X9_byteAt) rfl rfl ?_
  intro X hX
  by_cases c : k < L
  · rw [if_pos c, ← (t3 k c).1] at hR
    iterate 3 (refine hX _ ?_; conv => whnf)
    try simp only [kc0, kc1, kc2, kc3, kc4, kc5, kc6, kc7, kc8, kc9, kc10, kc11, kc12, kc13, kc14, kc15, kc16, kc17, kc18, kc19, kc20, kc21, kc22, kc23, kc24, kc25, kc26, kc27, kc28, kc29, kc30, kc31, kc32, kc33]
    refine hX _ ?_; conv => whnf
    refine ⟨fun q5 => ?_, fun q5 => ?_⟩
    · exfalso
      (try simp (disch := omega) only [bg_w_id, Int.toNat_natCast, rw_land, sh_land, not_true_eq_false, t1, kc0, kc1, kc2, kc3, kc4, kc5, kc6, kc7, kc8, kc9, kc10, kc11, kc12, kc13, kc14, kc15, kc16, kc17, kc18, kc19, kc20, kc21, kc22, kc23, kc24, kc25, kc26, kc27, kc28, kc29, kc30, kc31, kc32, kc33] at q5) <;> (omega)
    · try simp (disch := omega) only [bg_w_id, Int.toNat_natCast, rw_land, sh_land, not_true_eq_false, t1, kc0, kc1, kc2, kc3, kc4, kc5, kc6, kc7, kc8, kc9, kc10, kc11, kc12, kc13, kc14, kc15, kc16, kc17, kc18, kc19, kc20, kc21, kc22, kc23, kc24, kc25, kc26, kc27, kc28, kc29, kc30, kc31, kc32, kc33] at q5
      iterate 3 (refine hX _ ?_; conv => whnf)
      refine hX _ ?_; conv => whnf
      try (simp (disch := omega) only [bg_w_id, Int.toNat_natCast, rw_land, sh_land, not_true_eq_false, t1]; try conv => whnf)
      refine ⟨by first | omega | (simp (disch := omega) only [bg_w_id, Int.toNat_natCast, rw_land, sh_land, not_true_eq_false, t1]; omega), ?_⟩
      refine hX _ ?_; conv => whnf
      refine hX _ ?_; conv => whnf
      exact hR
  · rw [if_neg c] at hR
    iterate 3 (refine hX _ ?_; conv => whnf)
    try simp only [kc0, kc1, kc2, kc3, kc4, kc5, kc6, kc7, kc8, kc9, kc10, kc11, kc12, kc13, kc14, kc15, kc16, kc17, kc18, kc19, kc20, kc21, kc22, kc23, kc24, kc25, kc26, kc27, kc28, kc29, kc30, kc31, kc32, kc33]
    refine hX _ ?_; conv => whnf
    refine ⟨fun q5 => ?_, fun q5 => ?_⟩
    · try simp (disch := omega) only [bg_w_id, Int.toNat_natCast, rw_land, sh_land, not_true_eq_false, t1, kc0, kc1, kc2, kc3, kc4, kc5, kc6, kc7, kc8, kc9, kc10, kc11, kc12, kc13, kc14, kc15, kc16, kc17, kc18, kc19, kc20, kc21, kc22, kc23, kc24, kc25, kc26, kc27, kc28, kc29, kc30, kc31, kc32, kc33] at q5
      refine hX _ ?_; conv => whnf
      refine hX _ ?_; conv => whnf
      exact hR
    · exfalso
      (try simp (disch := omega) only [bg_w_id, Int.toNat_natCast, rw_land, sh_land, not_true_eq_false, t1, kc0, kc1, kc2, kc3, kc4, kc5, kc6, kc7, kc8, kc9, kc10, kc11, kc12, kc13, kc14, kc15, kc16, kc17, kc18, kc19, kc20, kc21, kc22, kc23, kc24, kc25, kc26, kc27, kc28, kc29, kc30, kc31, kc32, kc33] at q5) <;> (omega)
def frF (h h' : bg_G) : Prop := (∀ k, k ≠ 115 → k ≠ 129 → h' k = h k) ∧ (∀ j, j ≠ 18 → h' 115 j = h 115 j)
theorem s_mfigures (d n m a L : Nat) (hm : 1 ≤ m ∧ m ≤ 7) (ha : a ≤ 401) (T : Int → Int) (h : bg_G) (ht : txM h T L) (h18 : h 115 18 = a) (Rt : bg_R) (hR1 : ∀ (l : List Int) (e : Nat), nums (byt T L) m a = some (l, e) → ∀ h' : bg_G, frF h h' → h' 115 18 = e → (∀ i : Nat, i < m → h' 129 i = gl l i) → Rt (some (.inl 1)) (bg_SH n, h')) (hR0 : nums (byt T L) m a = none → ∀ h' : bg_G, frF h h' → Rt (some (.inl 0)) (bg_SH n, h')) : bg_Ca bg_MS (d + 2) 120 [vR 115, vI m] (bg_SH n, h) Rt := by
  refine bg_ca (cd := cd_X9_figures) rfl rfl ?_
  intro X hX
  have l1 : ∀ k, k ≤ m → ∀ (p : Nat) (pre : List Int) (h' : bg_G) (j3 j4 : Option bg_V), (k < m → pfx (byt T L) a k p pre) → (k = m → nums (byt T L) m a = some (pre, p)) → pre.length = k → p ≤ 401 + 5 * k → frF h h' → h' 115 18 = (p : Int) → (∀ i : Nat, i < k → h' 129 i = gl pre i) → X (2, [oR 115, oI (m : Int), oI (k : Int), j3, j4], [], (bg_SH n, h'), (0, 0)) := by
    refine lp_up m _ ?_ (fun k hk ih => ?_)
    · intro p pre h' j3 j4 hp hq hl hp4 f1 f2 f3
      iterate 2 (refine hX _ ?_; conv => whnf)
      refine hX _ ?_; conv => whnf
      refine ⟨fun q4 => ?_, fun q4 => ?_⟩
      · try simp (disch := omega) only [bg_w_id, Int.toNat_natCast, rw_land, sh_land, not_true_eq_false, kc0, kc1, kc2, kc3, kc4, kc5, kc6, kc7, kc8, kc9, kc10, kc11, kc12, kc13, kc14, kc15, kc16, kc17, kc18, kc19, kc20, kc21, kc22, kc23, kc24, kc25, kc26, kc27, kc28, kc29, kc30, kc31, kc32, kc33] at q4
        refine hX _ ?_; conv => whnf
        refine hX _ ?_; conv => whnf
        exact ⟨by omega, hR1 pre p (hq rfl) h' f1 f2 f3⟩
      · exfalso
        (try simp (disch := omega) only [bg_w_id, Int.toNat_natCast, rw_land, sh_land, not_true_eq_false, kc0, kc1, kc2, kc3, kc4, kc5, kc6, kc7, kc8, kc9, kc10, kc11, kc12, kc13, kc14, kc15, kc16, kc17, kc18, kc19, kc20, kc21, kc22, kc23, kc24, kc25, kc26, kc27, kc28, kc29, kc30, kc31, kc32, kc33] at q4) <;> (omega)
    · intro p pre h' j3 j4 hp hq hl hp4 f1 f2 f3
      have hp := hp hk
      have ht' : ∀ h2 : bg_G, frF h h2 → txM h2 T L := fun h2 g => ⟨by rw [g.2 0 (by omega)]; exact ht.1, ht.2.1, fun i hi => by rw [g.1 116 (by omega) (by omega)]; exact ht.2.2 i hi⟩
      obtain ⟨q, hq4⟩ : ∃ q, q = dgs (byt T L) 4 p := ⟨_, rfl⟩
      have q4 : q ≤ 4 := by rw [hq4]; exact dgs_le _ 4 p
      have rv := dval_rg (b := byt T L) (a := p) q (by rw [hq4]; exact fun i hi => dgs_dig _ 4 p i hi)
      obtain ⟨v, hv⟩ : ∃ v : Int, v = dval (byt T L) q p 0 := ⟨_, rfl⟩
      rw [← hv] at rv
      have br := byt_rg ht (p + q)
      obtain ⟨r, hr⟩ : ∃ r, m = k + (r + 1) := ⟨m - k - 1, by omega⟩
      have no : ¬ ((1 ≤ q ∧ q ≤ 3) ∧ byt T L (p + q) = (if r = 0 then 59 else 44)) → nums (byt T L) m a = none := fun hc => by
        rw [hr]
        refine hp.2.2 (r + 1) (by omega) ?_
        rw [nums_s, ← hq4, if_neg hc]
      have ex : ∀ h2 : bg_G, frF h h2 → h2 115 18 = ((p + q : Nat) : Int) → h2 129 = h' 129 → X (73, [oR 115, oI (m : Int), oI (k : Int), oI (q : Int), oI v], [], (bg_SH n, h2), (0, 0)) := by
        intro h2 g1 g2 g3
        by_cases c1 : 1 ≤ q ∧ q ≤ 3
        · by_cases c2 : byt T L (p + q) = (if r = 0 then 59 else 44)
          · have nx : X (2, [oR 115, oI (m : Int), oI ((k : Int) + 1), oI (q : Int), oI v], [], (bg_SH n, bg_up (bg_up h2 129 k v) 115 18 (((p + q : Nat) : Int) + 1)), (0, 0)) := by
              refine ih (p + q + 1) (pre ++ [v]) _ _ _ (fun hk2 => ?_) (fun hk2 => ?_) (by simp [hl]) (by omega) ⟨fun k' k1 k2 => ?_, fun j hj => ?_⟩ ?_ (fun i hi => ?_)
              · have := pfx_s hp (by rw [← hq4]; exact c1) (by rw [← hq4, c2, if_neg (by omega)])
                rw [← hq4, ← hv] at this
                exact this
              · have := pfx_end hp (by rw [← hq4]; exact c1) (by rw [← hq4, c2, if_pos (by omega)])
                rw [← hq4, ← hv, hk2] at this
                exact this
              · rw [bg_up_ne k1, bg_up_ne k2]; exact g1.1 k' k1 k2
              · rw [bg_up_nj hj, bg_up_ne (by omega)]; exact g1.2 j hj
              · rw [bg_up_self]; omega
              · rw [bg_up_ne (by omega), bg_up_at, g3]
                unfold gl
                by_cases e : i = k
                · rw [if_pos (by omega), e, List.getElem?_append_right (by omega), hl, Nat.sub_self]
                  rfl
                · rw [if_neg (by omega), f3 i (by omega), List.getElem?_append_left (by omega)]
                  rfl
            by_cases c3 : r = 0
            · rw [if_pos c3] at c2
              iterate 4 (refine hX _ ?_; conv => whnf)
              try simp (disch := omega) only [bg_w_id, Int.toNat_natCast, rw_land, sh_land, not_true_eq_false, g2]
              refine hX _ ?_; conv => whnf
              try simp (disch := omega) only [bg_w_id, Int.toNat_natCast, rw_land, sh_land, not_true_eq_false, g2]
              refine s_in_t (d + 0) _ _ _ _ _ (by omega) (by omega) (by omega) (by omega) ?_
              conv => whnf
              refine hX _ ?_; conv => whnf
              refine ⟨fun q82 => ?_, fun q82 => ?_⟩
              · exfalso
                (try simp (disch := omega) only [bg_w_id, Int.toNat_natCast, rw_land, sh_land, not_true_eq_false, g2, kc0, kc1, kc2, kc3, kc4, kc5, kc6, kc7, kc8, kc9, kc10, kc11, kc12, kc13, kc14, kc15, kc16, kc17, kc18, kc19, kc20, kc21, kc22, kc23, kc24, kc25, kc26, kc27, kc28, kc29, kc30, kc31, kc32, kc33] at q82) <;> (omega)
              · try simp (disch := omega) only [bg_w_id, Int.toNat_natCast, rw_land, sh_land, not_true_eq_false, g2, kc0, kc1, kc2, kc3, kc4, kc5, kc6, kc7, kc8, kc9, kc10, kc11, kc12, kc13, kc14, kc15, kc16, kc17, kc18, kc19, kc20, kc21, kc22, kc23, kc24, kc25, kc26, kc27, kc28, kc29, kc30, kc31, kc32, kc33] at q82
                iterate 3 (refine hX _ ?_; conv => whnf)
                try simp only [kc0, kc1, kc2, kc3, kc4, kc5, kc6, kc7, kc8, kc9, kc10, kc11, kc12, kc13, kc14, kc15, kc16, kc17, kc18, kc19, kc20, kc21, kc22, kc23, kc24, kc25, kc26, kc27, kc28, kc29, kc30, kc31, kc32, kc33]
                refine hX _ ?_; conv => whnf
                try simp (disch := omega) only [bg_w_id, Int.toNat_natCast, rw_land, sh_land, not_true_eq_false, g2]
                try rw [g2]
                refine s_mbyteAt (d + 0) n (p + q) L T h2 (ht' h2 g1) (by omega) _ ?_
                rw [c2]
                conv => whnf
                iterate 4 (refine hX _ ?_; conv => whnf)
                refine hX _ ?_; conv => whnf
                refine ⟨fun q97 => ?_, fun q97 => ?_⟩
                · try simp (disch := omega) only [bg_w_id, Int.toNat_natCast, rw_land, sh_land, not_true_eq_false, g2, kc0, kc1, kc2, kc3, kc4, kc5, kc6, kc7, kc8, kc9, kc10, kc11, kc12, kc13, kc14, kc15, kc16, kc17, kc18, kc19, kc20, kc21, kc22, kc23, kc24, kc25, kc26, kc27, kc28, kc29, kc30, kc31, kc32, kc33] at q97
                  refine hX _ ?_; conv => whnf
                  refine hX _ ?_; conv => whnf
                  refine ⟨fun q107 => ?_, fun q107 => ?_⟩
                  · try simp (disch := omega) only [bg_w_id, Int.toNat_natCast, rw_land, sh_land, not_true_eq_false, g2, kc0, kc1, kc2, kc3, kc4, kc5, kc6, kc7, kc8, kc9, kc10, kc11, kc12, kc13, kc14, kc15, kc16, kc17, kc18, kc19, kc20, kc21, kc22, kc23, kc24, kc25, kc26, kc27, kc28, kc29, kc30, kc31, kc32, kc33] at q107
                    iterate 4 (refine hX _ ?_; conv => whnf)
                    refine hX _ ?_; conv => whnf
                    try (simp (disch := omega) only [bg_w_id, Int.toNat_natCast, rw_land, sh_land, not_true_eq_false, g2]; try conv => whnf)
                    refine ⟨by first | omega | (simp (disch := omega) only [bg_w_id, Int.toNat_natCast, rw_land, sh_land, not_true_eq_false, g2]; omega), ?_⟩
                    iterate 8 (refine hX _ ?_; conv => whnf)
                    try simp only [kc0, kc1, kc2, kc3, kc4, kc5, kc6, kc7, kc8, kc9, kc10, kc11, kc12, kc13, kc14, kc15, kc16, kc17, kc18, kc19, kc20, kc21, kc22, kc23, kc24, kc25, kc26, kc27, kc28, kc29, kc30, kc31, kc32, kc33]
                    try rw [bg_up_ne (by omega)]
                    try rw [g2]
                    exact nx
                  · exfalso
                    (try simp (disch := omega) only [bg_w_id, Int.toNat_natCast, rw_land, sh_land, not_true_eq_false, g2, kc0, kc1, kc2, kc3, kc4, kc5, kc6, kc7, kc8, kc9, kc10, kc11, kc12, kc13, kc14, kc15, kc16, kc17, kc18, kc19, kc20, kc21, kc22, kc23, kc24, kc25, kc26, kc27, kc28, kc29, kc30, kc31, kc32, kc33] at q107) <;> (omega)
                · exfalso
                  (try simp (disch := omega) only [bg_w_id, Int.toNat_natCast, rw_land, sh_land, not_true_eq_false, g2, kc0, kc1, kc2, kc3, kc4, kc5, kc6, kc7, kc8, kc9, kc10, kc11, kc12, kc13, kc14, kc15, kc16, kc17, kc18, kc19, kc20, kc21, kc22, kc23, kc24, kc25, kc26, kc27, kc28, kc29, kc30, kc31, kc32, kc33] at q97) <;> (omega)
            · rw [if_neg c3] at c2
              iterate 4 (refine hX _ ?_; conv => whnf)
              try simp (disch := omega) only [bg_w_id, Int.toNat_natCast, rw_land, sh_land, not_true_eq_false, g2]
              refine hX _ ?_; conv => whnf
              try simp (disch := omega) only [bg_w_id, Int.toNat_natCast, rw_land, sh_land, not_true_eq_false, g2]
              refine s_in_t (d + 0) _ _ _ _ _ (by omega) (by omega) (by omega) (by omega) ?_
              conv => whnf
              refine hX _ ?_; conv => whnf
              refine ⟨fun q82 => ?_, fun q82 => ?_⟩
              · exfalso
                (try simp (disch := omega) only [bg_w_id, Int.toNat_natCast, rw_land, sh_land, not_true_eq_false, g2, kc0, kc1, kc2, kc3, kc4, kc5, kc6, kc7, kc8, kc9, kc10, kc11, kc12, kc13, kc14, kc15, kc16, kc17, kc18, kc19, kc20, kc21, kc22, kc23, kc24, kc25, kc26, kc27, kc28, kc29, kc30, kc31, kc32, kc33] at q82) <;> (omega)
              · try simp (disch := omega) only [bg_w_id, Int.toNat_natCast, rw_land, sh_land, not_true_eq_false, g2, kc0, kc1, kc2, kc3, kc4, kc5, kc6, kc7, kc8, kc9, kc10, kc11, kc12, kc13, kc14, kc15, kc16, kc17, kc18, kc19, kc20, kc21, kc22, kc23, kc24, kc25, kc26, kc27, kc28, kc29, kc30, kc31, kc32, kc33] at q82
                iterate 3 (refine hX _ ?_; conv => whnf)
                try simp only [kc0, kc1, kc2, kc3, kc4, kc5, kc6, kc7, kc8, kc9, kc10, kc11, kc12, kc13, kc14, kc15, kc16, kc17, kc18, kc19, kc20, kc21, kc22, kc23, kc24, kc25, kc26, kc27, kc28, kc29, kc30, kc31, kc32, kc33]
                refine hX _ ?_; conv => whnf
                try simp (disch := omega) only [bg_w_id, Int.toNat_natCast, rw_land, sh_land, not_true_eq_false, g2]
                try rw [g2]
                refine s_mbyteAt (d + 0) n (p + q) L T h2 (ht' h2 g1) (by omega) _ ?_
                rw [c2]
                conv => whnf
                iterate 4 (refine hX _ ?_; conv => whnf)
                refine hX _ ?_; conv => whnf
                refine ⟨fun q97 => ?_, fun q97 => ?_⟩
                · exfalso
                  (try simp (disch := omega) only [bg_w_id, Int.toNat_natCast, rw_land, sh_land, not_true_eq_false, g2, kc0, kc1, kc2, kc3, kc4, kc5, kc6, kc7, kc8, kc9, kc10, kc11, kc12, kc13, kc14, kc15, kc16, kc17, kc18, kc19, kc20, kc21, kc22, kc23, kc24, kc25, kc26, kc27, kc28, kc29, kc30, kc31, kc32, kc33] at q97) <;> (omega)
                · try simp (disch := omega) only [bg_w_id, Int.toNat_natCast, rw_land, sh_land, not_true_eq_false, g2, kc0, kc1, kc2, kc3, kc4, kc5, kc6, kc7, kc8, kc9, kc10, kc11, kc12, kc13, kc14, kc15, kc16, kc17, kc18, kc19, kc20, kc21, kc22, kc23, kc24, kc25, kc26, kc27, kc28, kc29, kc30, kc31, kc32, kc33] at q97
                  iterate 2 (refine hX _ ?_; conv => whnf)
                  refine hX _ ?_; conv => whnf
                  refine ⟨fun q107 => ?_, fun q107 => ?_⟩
                  · try simp (disch := omega) only [bg_w_id, Int.toNat_natCast, rw_land, sh_land, not_true_eq_false, g2, kc0, kc1, kc2, kc3, kc4, kc5, kc6, kc7, kc8, kc9, kc10, kc11, kc12, kc13, kc14, kc15, kc16, kc17, kc18, kc19, kc20, kc21, kc22, kc23, kc24, kc25, kc26, kc27, kc28, kc29, kc30, kc31, kc32, kc33] at q107
                    iterate 4 (refine hX _ ?_; conv => whnf)
                    refine hX _ ?_; conv => whnf
                    try (simp (disch := omega) only [bg_w_id, Int.toNat_natCast, rw_land, sh_land, not_true_eq_false, g2]; try conv => whnf)
                    refine ⟨by first | omega | (simp (disch := omega) only [bg_w_id, Int.toNat_natCast, rw_land, sh_land, not_true_eq_false, g2]; omega), ?_⟩
                    iterate 8 (refine hX _ ?_; conv => whnf)
                    try simp only [kc0, kc1, kc2, kc3, kc4, kc5, kc6, kc7, kc8, kc9, kc10, kc11, kc12, kc13, kc14, kc15, kc16, kc17, kc18, kc19, kc20, kc21, kc22, kc23, kc24, kc25, kc26, kc27, kc28, kc29, kc30, kc31, kc32, kc33]
                    try rw [bg_up_ne (by omega)]
                    try rw [g2]
                    exact nx
                  · exfalso
                    (try simp (disch := omega) only [bg_w_id, Int.toNat_natCast, rw_land, sh_land, not_true_eq_false, g2, kc0, kc1, kc2, kc3, kc4, kc5, kc6, kc7, kc8, kc9, kc10, kc11, kc12, kc13, kc14, kc15, kc16, kc17, kc18, kc19, kc20, kc21, kc22, kc23, kc24, kc25, kc26, kc27, kc28, kc29, kc30, kc31, kc32, kc33] at q107) <;> (omega)
          · have hR0 := hR0 (no (fun x => c2 x.2)) h2 g1
            by_cases c3 : r = 0
            · rw [if_pos c3] at c2
              iterate 4 (refine hX _ ?_; conv => whnf)
              try simp (disch := omega) only [bg_w_id, Int.toNat_natCast, rw_land, sh_land, not_true_eq_false, g2]
              refine hX _ ?_; conv => whnf
              try simp (disch := omega) only [bg_w_id, Int.toNat_natCast, rw_land, sh_land, not_true_eq_false, g2]
              refine s_in_t (d + 0) _ _ _ _ _ (by omega) (by omega) (by omega) (by omega) ?_
              conv => whnf
              refine hX _ ?_; conv => whnf
              refine ⟨fun q82 => ?_, fun q82 => ?_⟩
              · exfalso
                (try simp (disch := omega) only [bg_w_id, Int.toNat_natCast, rw_land, sh_land, not_true_eq_false, g2, kc0, kc1, kc2, kc3, kc4, kc5, kc6, kc7, kc8, kc9, kc10, kc11, kc12, kc13, kc14, kc15, kc16, kc17, kc18, kc19, kc20, kc21, kc22, kc23, kc24, kc25, kc26, kc27, kc28, kc29, kc30, kc31, kc32, kc33] at q82) <;> (omega)
              · try simp (disch := omega) only [bg_w_id, Int.toNat_natCast, rw_land, sh_land, not_true_eq_false, g2, kc0, kc1, kc2, kc3, kc4, kc5, kc6, kc7, kc8, kc9, kc10, kc11, kc12, kc13, kc14, kc15, kc16, kc17, kc18, kc19, kc20, kc21, kc22, kc23, kc24, kc25, kc26, kc27, kc28, kc29, kc30, kc31, kc32, kc33] at q82
                iterate 3 (refine hX _ ?_; conv => whnf)
                try simp only [kc0, kc1, kc2, kc3, kc4, kc5, kc6, kc7, kc8, kc9, kc10, kc11, kc12, kc13, kc14, kc15, kc16, kc17, kc18, kc19, kc20, kc21, kc22, kc23, kc24, kc25, kc26, kc27, kc28, kc29, kc30, kc31, kc32, kc33]
                refine hX _ ?_; conv => whnf
                try simp (disch := omega) only [bg_w_id, Int.toNat_natCast, rw_land, sh_land, not_true_eq_false, g2]
                try rw [g2]
                refine s_mbyteAt (d + 0) n (p + q) L T h2 (ht' h2 g1) (by omega) _ ?_
                conv => whnf
                iterate 4 (refine hX _ ?_; conv => whnf)
                refine hX _ ?_; conv => whnf
                refine ⟨fun q97 => ?_, fun q97 => ?_⟩
                · try simp (disch := omega) only [bg_w_id, Int.toNat_natCast, rw_land, sh_land, not_true_eq_false, g2, kc0, kc1, kc2, kc3, kc4, kc5, kc6, kc7, kc8, kc9, kc10, kc11, kc12, kc13, kc14, kc15, kc16, kc17, kc18, kc19, kc20, kc21, kc22, kc23, kc24, kc25, kc26, kc27, kc28, kc29, kc30, kc31, kc32, kc33] at q97
                  refine hX _ ?_; conv => whnf
                  refine hX _ ?_; conv => whnf
                  refine ⟨fun q107 => ?_, fun q107 => ?_⟩
                  · exfalso
                    (try simp (disch := omega) only [bg_w_id, Int.toNat_natCast, rw_land, sh_land, not_true_eq_false, g2, kc0, kc1, kc2, kc3, kc4, kc5, kc6, kc7, kc8, kc9, kc10, kc11, kc12, kc13, kc14, kc15, kc16, kc17, kc18, kc19, kc20, kc21, kc22, kc23, kc24, kc25, kc26, kc27, kc28, kc29, kc30, kc31, kc32, kc33] at q107) <;> (omega)
                  · try simp (disch := omega) only [bg_w_id, Int.toNat_natCast, rw_land, sh_land, not_true_eq_false, g2, kc0, kc1, kc2, kc3, kc4, kc5, kc6, kc7, kc8, kc9, kc10, kc11, kc12, kc13, kc14, kc15, kc16, kc17, kc18, kc19, kc20, kc21, kc22, kc23, kc24, kc25, kc26, kc27, kc28, kc29, kc30, kc31, kc32, kc33] at q107
                    refine hX _ ?_; conv => whnf
                    refine hX _ ?_; conv => whnf
                    exact ⟨by omega, hR0⟩
                · exfalso
                  (try simp (disch := omega) only [bg_w_id, Int.toNat_natCast, rw_land, sh_land, not_true_eq_false, g2, kc0, kc1, kc2, kc3, kc4, kc5, kc6, kc7, kc8, kc9, kc10, kc11, kc12, kc13, kc14, kc15, kc16, kc17, kc18, kc19, kc20, kc21, kc22, kc23, kc24, kc25, kc26, kc27, kc28, kc29, kc30, kc31, kc32, kc33] at q97) <;> (omega)
            · rw [if_neg c3] at c2
              iterate 4 (refine hX _ ?_; conv => whnf)
              try simp (disch := omega) only [bg_w_id, Int.toNat_natCast, rw_land, sh_land, not_true_eq_false, g2]
              refine hX _ ?_; conv => whnf
              try simp (disch := omega) only [bg_w_id, Int.toNat_natCast, rw_land, sh_land, not_true_eq_false, g2]
              refine s_in_t (d + 0) _ _ _ _ _ (by omega) (by omega) (by omega) (by omega) ?_
              conv => whnf
              refine hX _ ?_; conv => whnf
              refine ⟨fun q82 => ?_, fun q82 => ?_⟩
              · exfalso
                (try simp (disch := omega) only [bg_w_id, Int.toNat_natCast, rw_land, sh_land, not_true_eq_false, g2, kc0, kc1, kc2, kc3, kc4, kc5, kc6, kc7, kc8, kc9, kc10, kc11, kc12, kc13, kc14, kc15, kc16, kc17, kc18, kc19, kc20, kc21, kc22, kc23, kc24, kc25, kc26, kc27, kc28, kc29, kc30, kc31, kc32, kc33] at q82) <;> (omega)
              · try simp (disch := omega) only [bg_w_id, Int.toNat_natCast, rw_land, sh_land, not_true_eq_false, g2, kc0, kc1, kc2, kc3, kc4, kc5, kc6, kc7, kc8, kc9, kc10, kc11, kc12, kc13, kc14, kc15, kc16, kc17, kc18, kc19, kc20, kc21, kc22, kc23, kc24, kc25, kc26, kc27, kc28, kc29, kc30, kc31, kc32, kc33] at q82
                iterate 3 (refine hX _ ?_; conv => whnf)
                try simp only [kc0, kc1, kc2, kc3, kc4, kc5, kc6, kc7, kc8, kc9, kc10, kc11, kc12, kc13, kc14, kc15, kc16, kc17, kc18, kc19, kc20, kc21, kc22, kc23, kc24, kc25, kc26, kc27, kc28, kc29, kc30, kc31, kc32, kc33]
                refine hX _ ?_; conv => whnf
                try simp (disch := omega) only [bg_w_id, Int.toNat_natCast, rw_land, sh_land, not_true_eq_false, g2]
                try rw [g2]
                refine s_mbyteAt (d + 0) n (p + q) L T h2 (ht' h2 g1) (by omega) _ ?_
                conv => whnf
                iterate 4 (refine hX _ ?_; conv => whnf)
                refine hX _ ?_; conv => whnf
                refine ⟨fun q97 => ?_, fun q97 => ?_⟩
                · exfalso
                  (try simp (disch := omega) only [bg_w_id, Int.toNat_natCast, rw_land, sh_land, not_true_eq_false, g2, kc0, kc1, kc2, kc3, kc4, kc5, kc6, kc7, kc8, kc9, kc10, kc11, kc12, kc13, kc14, kc15, kc16, kc17, kc18, kc19, kc20, kc21, kc22, kc23, kc24, kc25, kc26, kc27, kc28, kc29, kc30, kc31, kc32, kc33] at q97) <;> (omega)
                · try simp (disch := omega) only [bg_w_id, Int.toNat_natCast, rw_land, sh_land, not_true_eq_false, g2, kc0, kc1, kc2, kc3, kc4, kc5, kc6, kc7, kc8, kc9, kc10, kc11, kc12, kc13, kc14, kc15, kc16, kc17, kc18, kc19, kc20, kc21, kc22, kc23, kc24, kc25, kc26, kc27, kc28, kc29, kc30, kc31, kc32, kc33] at q97
                  iterate 2 (refine hX _ ?_; conv => whnf)
                  refine hX _ ?_; conv => whnf
                  refine ⟨fun q107 => ?_, fun q107 => ?_⟩
                  · exfalso
                    (try simp (disch := omega) only [bg_w_id, Int.toNat_natCast, rw_land, sh_land, not_true_eq_false, g2, kc0, kc1, kc2, kc3, kc4, kc5, kc6, kc7, kc8, kc9, kc10, kc11, kc12, kc13, kc14, kc15, kc16, kc17, kc18, kc19, kc20, kc21, kc22, kc23, kc24, kc25, kc26, kc27, kc28, kc29, kc30, kc31, kc32, kc33] at q107) <;> (omega)
                  · try simp (disch := omega) only [bg_w_id, Int.toNat_natCast, rw_land, sh_land, not_true_eq_false, g2, kc0, kc1, kc2, kc3, kc4, kc5, kc6, kc7, kc8, kc9, kc10, kc11, kc12, kc13, kc14, kc15, kc16, kc17, kc18, kc19, kc20, kc21, kc22, kc23, kc24, kc25, kc26, kc27, kc28, kc29, kc30, kc31, kc32, kc33] at q107
                    refine hX _ ?_; conv => whnf
                    refine hX _ ?_; conv => whnf
                    exact ⟨by omega, hR0⟩
        · have hR0 := hR0 (no (fun x => c1 x.1)) h2 g1
          iterate 4 (refine hX _ ?_; conv => whnf)
          try simp (disch := omega) only [bg_w_id, Int.toNat_natCast, rw_land, sh_land, not_true_eq_false]
          refine hX _ ?_; conv => whnf
          try simp (disch := omega) only [bg_w_id, Int.toNat_natCast, rw_land, sh_land, not_true_eq_false]
          refine s_in_f (d + 0) _ _ _ _ _ (by omega) (by omega) (by omega) (by omega) ?_
          conv => whnf
          refine hX _ ?_; conv => whnf
          refine ⟨fun q82 => ?_, fun q82 => ?_⟩
          · try simp (disch := omega) only [bg_w_id, Int.toNat_natCast, rw_land, sh_land, not_true_eq_false, kc0, kc1, kc2, kc3, kc4, kc5, kc6, kc7, kc8, kc9, kc10, kc11, kc12, kc13, kc14, kc15, kc16, kc17, kc18, kc19, kc20, kc21, kc22, kc23, kc24, kc25, kc26, kc27, kc28, kc29, kc30, kc31, kc32, kc33] at q82
            refine hX _ ?_; conv => whnf
            refine hX _ ?_; conv => whnf
            exact ⟨by omega, hR0⟩
          · exfalso
            (try simp (disch := omega) only [bg_w_id, Int.toNat_natCast, rw_land, sh_land, not_true_eq_false, kc0, kc1, kc2, kc3, kc4, kc5, kc6, kc7, kc8, kc9, kc10, kc11, kc12, kc13, kc14, kc15, kc16, kc17, kc18, kc19, kc20, kc21, kc22, kc23, kc24, kc25, kc26, kc27, kc28, kc29, kc30, kc31, kc32, kc33] at q82) <;> (omega)
      have l2 : ∀ i, i ≤ 4 → (∀ j, j < i → 48 ≤ byt T L (p + j) ∧ byt T L (p + j) ≤ 57) → ∀ (h2 : bg_G) (w : Int), frF h h2 → h2 115 18 = ((p + i : Nat) : Int) → h2 129 = h' 129 → w = dval (byt T L) i p 0 → X (12, [oR 115, oI (m : Int), oI (k : Int), oI (i : Int), oI w], [], (bg_SH n, h2), (0, 0)) := by
        refine lp_up 4 _ ?_ (fun i hi ih2 => ?_)
        · intro hd h2 w g1 g2 g3 ew
          have e4 : q = 4 := by rw [hq4]; exact dgs_is 4 p 4 (by omega) hd (by omega)
          have b4 := byt_rg ht (p + 4)
          have ex := ex h2 g1 (by rw [e4]; exact g2) g3
          rw [hv, e4, ← ew] at ex
          by_cases c : 48 ≤ byt T L (p + 4) ∧ byt T L (p + 4) ≤ 57
          · iterate 3 (refine hX _ ?_; conv => whnf)
            try simp only [kc0, kc1, kc2, kc3, kc4, kc5, kc6, kc7, kc8, kc9, kc10, kc11, kc12, kc13, kc14, kc15, kc16, kc17, kc18, kc19, kc20, kc21, kc22, kc23, kc24, kc25, kc26, kc27, kc28, kc29, kc30, kc31, kc32, kc33]
            refine hX _ ?_; conv => whnf
            try simp (disch := omega) only [bg_w_id, Int.toNat_natCast, rw_land, sh_land, not_true_eq_false]
            rw [g2]
            refine s_mbyteAt (d + 0) n (p + 4) L T h2 (ht' h2 g1) (by omega) _ ?_
            conv => whnf
            iterate 3 (refine hX _ ?_; conv => whnf)
            try simp (disch := omega) only [bg_w_id, Int.toNat_natCast, rw_land, sh_land, not_true_eq_false]
            refine hX _ ?_; conv => whnf
            try simp (disch := omega) only [bg_w_id, Int.toNat_natCast, rw_land, sh_land, not_true_eq_false]
            refine s_in_t (d + 0) _ _ _ _ _ (by omega) (by omega) (by omega) c ?_
            conv => whnf
            refine hX _ ?_; conv => whnf
            refine ⟨fun q30 => ?_, fun q30 => ?_⟩
            · exfalso
              (try simp (disch := omega) only [bg_w_id, Int.toNat_natCast, rw_land, sh_land, not_true_eq_false, kc0, kc1, kc2, kc3, kc4, kc5, kc6, kc7, kc8, kc9, kc10, kc11, kc12, kc13, kc14, kc15, kc16, kc17, kc18, kc19, kc20, kc21, kc22, kc23, kc24, kc25, kc26, kc27, kc28, kc29, kc30, kc31, kc32, kc33] at q30) <;> (omega)
            · try simp (disch := omega) only [bg_w_id, Int.toNat_natCast, rw_land, sh_land, not_true_eq_false, kc0, kc1, kc2, kc3, kc4, kc5, kc6, kc7, kc8, kc9, kc10, kc11, kc12, kc13, kc14, kc15, kc16, kc17, kc18, kc19, kc20, kc21, kc22, kc23, kc24, kc25, kc26, kc27, kc28, kc29, kc30, kc31, kc32, kc33] at q30
              iterate 2 (refine hX _ ?_; conv => whnf)
              refine hX _ ?_; conv => whnf
              refine ⟨fun q35 => ?_, fun q35 => ?_⟩
              · try simp (disch := omega) only [bg_w_id, Int.toNat_natCast, rw_land, sh_land, not_true_eq_false, kc0, kc1, kc2, kc3, kc4, kc5, kc6, kc7, kc8, kc9, kc10, kc11, kc12, kc13, kc14, kc15, kc16, kc17, kc18, kc19, kc20, kc21, kc22, kc23, kc24, kc25, kc26, kc27, kc28, kc29, kc30, kc31, kc32, kc33] at q35
                exact ex
              · exfalso
                (try simp (disch := omega) only [bg_w_id, Int.toNat_natCast, rw_land, sh_land, not_true_eq_false, kc0, kc1, kc2, kc3, kc4, kc5, kc6, kc7, kc8, kc9, kc10, kc11, kc12, kc13, kc14, kc15, kc16, kc17, kc18, kc19, kc20, kc21, kc22, kc23, kc24, kc25, kc26, kc27, kc28, kc29, kc30, kc31, kc32, kc33] at q35) <;> (omega)
          · iterate 3 (refine hX _ ?_; conv => whnf)
            try simp only [kc0, kc1, kc2, kc3, kc4, kc5, kc6, kc7, kc8, kc9, kc10, kc11, kc12, kc13, kc14, kc15, kc16, kc17, kc18, kc19, kc20, kc21, kc22, kc23, kc24, kc25, kc26, kc27, kc28, kc29, kc30, kc31, kc32, kc33]
            refine hX _ ?_; conv => whnf
            try simp (disch := omega) only [bg_w_id, Int.toNat_natCast, rw_land, sh_land, not_true_eq_false]
            rw [g2]
            refine s_mbyteAt (d + 0) n (p + 4) L T h2 (ht' h2 g1) (by omega) _ ?_
            conv => whnf
            iterate 3 (refine hX _ ?_; conv => whnf)
            try simp (disch := omega) only [bg_w_id, Int.toNat_natCast, rw_land, sh_land, not_true_eq_false]
            refine hX _ ?_; conv => whnf
            try simp (disch := omega) only [bg_w_id, Int.toNat_natCast, rw_land, sh_land, not_true_eq_false]
            refine s_in_f (d + 0) _ _ _ _ _ (by omega) (by omega) (by omega) c ?_
            conv => whnf
            refine hX _ ?_; conv => whnf
            refine ⟨fun q30 => ?_, fun q30 => ?_⟩
            · try simp (disch := omega) only [bg_w_id, Int.toNat_natCast, rw_land, sh_land, not_true_eq_false, kc0, kc1, kc2, kc3, kc4, kc5, kc6, kc7, kc8, kc9, kc10, kc11, kc12, kc13, kc14, kc15, kc16, kc17, kc18, kc19, kc20, kc21, kc22, kc23, kc24, kc25, kc26, kc27, kc28, kc29, kc30, kc31, kc32, kc33] at q30
              exact ex
            · exfalso
              (try simp (disch := omega) only [bg_w_id, Int.toNat_natCast, rw_land, sh_land, not_true_eq_false, kc0, kc1, kc2, kc3, kc4, kc5, kc6, kc7, kc8, kc9, kc10, kc11, kc12, kc13, kc14, kc15, kc16, kc17, kc18, kc19, kc20, kc21, kc22, kc23, kc24, kc25, kc26, kc27, kc28, kc29, kc30, kc31, kc32, kc33] at q30) <;> (omega)
        · intro hd h2 w g1 g2 g3 ew
          have bi := byt_rg ht (p + i)
          by_cases c : 48 ≤ byt T L (p + i) ∧ byt T L (p + i) ≤ 57
          · iterate 3 (refine hX _ ?_; conv => whnf)
            try simp only [kc0, kc1, kc2, kc3, kc4, kc5, kc6, kc7, kc8, kc9, kc10, kc11, kc12, kc13, kc14, kc15, kc16, kc17, kc18, kc19, kc20, kc21, kc22, kc23, kc24, kc25, kc26, kc27, kc28, kc29, kc30, kc31, kc32, kc33]
            refine hX _ ?_; conv => whnf
            try simp (disch := omega) only [bg_w_id, Int.toNat_natCast, rw_land, sh_land, not_true_eq_false]
            rw [g2]
            refine s_mbyteAt (d + 0) n (p + i) L T h2 (ht' h2 g1) (by omega) _ ?_
            conv => whnf
            iterate 3 (refine hX _ ?_; conv => whnf)
            try simp (disch := omega) only [bg_w_id, Int.toNat_natCast, rw_land, sh_land, not_true_eq_false]
            refine hX _ ?_; conv => whnf
            try simp (disch := omega) only [bg_w_id, Int.toNat_natCast, rw_land, sh_land, not_true_eq_false]
            refine s_in_t (d + 0) _ _ _ _ _ (by omega) (by omega) (by omega) c ?_
            conv => whnf
            refine hX _ ?_; conv => whnf
            refine ⟨fun q30 => ?_, fun q30 => ?_⟩
            · exfalso
              (try simp (disch := omega) only [bg_w_id, Int.toNat_natCast, rw_land, sh_land, not_true_eq_false, kc0, kc1, kc2, kc3, kc4, kc5, kc6, kc7, kc8, kc9, kc10, kc11, kc12, kc13, kc14, kc15, kc16, kc17, kc18, kc19, kc20, kc21, kc22, kc23, kc24, kc25, kc26, kc27, kc28, kc29, kc30, kc31, kc32, kc33] at q30) <;> (omega)
            · try simp (disch := omega) only [bg_w_id, Int.toNat_natCast, rw_land, sh_land, not_true_eq_false, kc0, kc1, kc2, kc3, kc4, kc5, kc6, kc7, kc8, kc9, kc10, kc11, kc12, kc13, kc14, kc15, kc16, kc17, kc18, kc19, kc20, kc21, kc22, kc23, kc24, kc25, kc26, kc27, kc28, kc29, kc30, kc31, kc32, kc33] at q30
              iterate 2 (refine hX _ ?_; conv => whnf)
              refine hX _ ?_; conv => whnf
              refine ⟨fun q35 => ?_, fun q35 => ?_⟩
              · exfalso
                (try simp (disch := omega) only [bg_w_id, Int.toNat_natCast, rw_land, sh_land, not_true_eq_false, kc0, kc1, kc2, kc3, kc4, kc5, kc6, kc7, kc8, kc9, kc10, kc11, kc12, kc13, kc14, kc15, kc16, kc17, kc18, kc19, kc20, kc21, kc22, kc23, kc24, kc25, kc26, kc27, kc28, kc29, kc30, kc31, kc32, kc33] at q35) <;> (omega)
              · try simp (disch := omega) only [bg_w_id, Int.toNat_natCast, rw_land, sh_land, not_true_eq_false, kc0, kc1, kc2, kc3, kc4, kc5, kc6, kc7, kc8, kc9, kc10, kc11, kc12, kc13, kc14, kc15, kc16, kc17, kc18, kc19, kc20, kc21, kc22, kc23, kc24, kc25, kc26, kc27, kc28, kc29, kc30, kc31, kc32, kc33] at q35
                iterate 6 (refine hX _ ?_; conv => whnf)
                try simp only [kc0, kc1, kc2, kc3, kc4, kc5, kc6, kc7, kc8, kc9, kc10, kc11, kc12, kc13, kc14, kc15, kc16, kc17, kc18, kc19, kc20, kc21, kc22, kc23, kc24, kc25, kc26, kc27, kc28, kc29, kc30, kc31, kc32, kc33]
                refine hX _ ?_; conv => whnf
                try simp (disch := omega) only [bg_w_id, Int.toNat_natCast, rw_land, sh_land, not_true_eq_false]
                rw [g2]
                refine s_mbyteAt (d + 0) n (p + i) L T h2 (ht' h2 g1) (by omega) _ ?_
                conv => whnf
                iterate 12 (refine hX _ ?_; conv => whnf)
                try simp only [kc0, kc1, kc2, kc3, kc4, kc5, kc6, kc7, kc8, kc9, kc10, kc11, kc12, kc13, kc14, kc15, kc16, kc17, kc18, kc19, kc20, kc21, kc22, kc23, kc24, kc25, kc26, kc27, kc28, kc29, kc30, kc31, kc32, kc33]
                rw [g2]
                refine ih2 (fun j hj => ?_) _ _ ⟨fun k' k1 k2 => ?_, fun j hj => ?_⟩ ?_ ?_ ?_
                · by_cases e : j = i
                  · rw [e]; exact c
                  · exact hd j (by omega)
                · rw [bg_up_ne k1]; exact g1.1 k' k1 k2
                · rw [bg_up_nj hj]; exact g1.2 j hj
                · rw [bg_up_self]; omega
                · rw [bg_up_ne (by omega)]; exact g3
                · rw [dval_snoc, ew]
          · have e4 : q = i := by rw [hq4]; exact dgs_is 4 p i (by omega) hd (fun _ => c)
            have ex := ex h2 g1 (by rw [e4]; exact g2) g3
            rw [hv, e4, ← ew] at ex
            iterate 3 (refine hX _ ?_; conv => whnf)
            try simp only [kc0, kc1, kc2, kc3, kc4, kc5, kc6, kc7, kc8, kc9, kc10, kc11, kc12, kc13, kc14, kc15, kc16, kc17, kc18, kc19, kc20, kc21, kc22, kc23, kc24, kc25, kc26, kc27, kc28, kc29, kc30, kc31, kc32, kc33]
            refine hX _ ?_; conv => whnf
            try simp (disch := omega) only [bg_w_id, Int.toNat_natCast, rw_land, sh_land, not_true_eq_false]
            rw [g2]
            refine s_mbyteAt (d + 0) n (p + i) L T h2 (ht' h2 g1) (by omega) _ ?_
            conv => whnf
            iterate 3 (refine hX _ ?_; conv => whnf)
            try simp (disch := omega) only [bg_w_id, Int.toNat_natCast, rw_land, sh_land, not_true_eq_false]
            refine hX _ ?_; conv => whnf
            try simp (disch := omega) only [bg_w_id, Int.toNat_natCast, rw_land, sh_land, not_true_eq_false]
            refine s_in_f (d + 0) _ _ _ _ _ (by omega) (by omega) (by omega) c ?_
            conv => whnf
            refine hX _ ?_; conv => whnf
            refine ⟨fun q30 => ?_, fun q30 => ?_⟩
            · try simp (disch := omega) only [bg_w_id, Int.toNat_natCast, rw_land, sh_land, not_true_eq_false, kc0, kc1, kc2, kc3, kc4, kc5, kc6, kc7, kc8, kc9, kc10, kc11, kc12, kc13, kc14, kc15, kc16, kc17, kc18, kc19, kc20, kc21, kc22, kc23, kc24, kc25, kc26, kc27, kc28, kc29, kc30, kc31, kc32, kc33] at q30
              exact ex
            · exfalso
              (try simp (disch := omega) only [bg_w_id, Int.toNat_natCast, rw_land, sh_land, not_true_eq_false, kc0, kc1, kc2, kc3, kc4, kc5, kc6, kc7, kc8, kc9, kc10, kc11, kc12, kc13, kc14, kc15, kc16, kc17, kc18, kc19, kc20, kc21, kc22, kc23, kc24, kc25, kc26, kc27, kc28, kc29, kc30, kc31, kc32, kc33] at q30) <;> (omega)
      iterate 2 (refine hX _ ?_; conv => whnf)
      refine hX _ ?_; conv => whnf
      refine ⟨fun q4 => ?_, fun q4 => ?_⟩
      · exfalso
        (try simp (disch := omega) only [bg_w_id, Int.toNat_natCast, rw_land, sh_land, not_true_eq_false, kc0, kc1, kc2, kc3, kc4, kc5, kc6, kc7, kc8, kc9, kc10, kc11, kc12, kc13, kc14, kc15, kc16, kc17, kc18, kc19, kc20, kc21, kc22, kc23, kc24, kc25, kc26, kc27, kc28, kc29, kc30, kc31, kc32, kc33] at q4) <;> (omega)
      · try simp (disch := omega) only [bg_w_id, Int.toNat_natCast, rw_land, sh_land, not_true_eq_false, kc0, kc1, kc2, kc3, kc4, kc5, kc6, kc7, kc8, kc9, kc10, kc11, kc12, kc13, kc14, kc15, kc16, kc17, kc18, kc19, kc20, kc21, kc22, kc23, kc24, kc25, kc26, kc27, kc28, kc29, kc30, kc31, kc32, kc33] at q4
        iterate 4 (refine hX _ ?_; conv => whnf)
        exact l2 0 (by omega) (fun j hj => absurd hj (by omega)) h' _ f1 f2 rfl rfl
  iterate 2 (refine hX _ ?_; conv => whnf)
  exact l1 0 (by omega) a [] h _ _ (fun _ => pfx_0 _ _) (fun e => absurd e (by omega)) rfl (by omega) ⟨fun _ _ _ => rfl, fun _ _ => rfl⟩ h18 (fun i hi => absurd hi (by omega))
/-- what reading may change: book 3, numbers, the place -/
def frI (h h' : bg_G) : Prop := (∀ k, k ≠ 115 → k ≠ 117 → k ≠ 118 → k ≠ 119 → k ≠ 120 → k ≠ 121 → k ≠ 129 → h' k = h k) ∧ (∀ j, j ≠ 18 → h' 115 j = h 115 j) ∧ (∀ j, j ≠ 3 → h' 117 j = h 117 j) ∧ (∀ j, j ≠ 3 → h' 119 j = h 119 j) ∧ (∀ j, j < 252 → h' 118 j = h 118 j) ∧ (∀ j, j < 27 → h' 120 j = h 120 j) ∧ (∀ j, j < 9 → h' 121 j = h 121 j)
theorem frI_refl (h : bg_G) : frI h h := ⟨fun _ _ _ _ _ _ _ _ => rfl, fun _ _ => rfl, fun _ _ => rfl, fun _ _ => rfl, fun _ _ => rfl, fun _ _ => rfl, fun _ _ => rfl⟩
theorem frI_trans {h h1 h2 : bg_G} (a : frI h h1) (b : frI h1 h2) : frI h h2 := ⟨fun k k1 k2 k3 k4 k5 k6 k7 => by rw [b.1 k k1 k2 k3 k4 k5 k6 k7, a.1 k k1 k2 k3 k4 k5 k6 k7], fun j hj => by rw [b.2.1 j hj, a.2.1 j hj], fun j hj => by rw [b.2.2.1 j hj, a.2.2.1 j hj], fun j hj => by rw [b.2.2.2.1 j hj, a.2.2.2.1 j hj], fun j hj => by rw [b.2.2.2.2.1 j hj, a.2.2.2.2.1 j hj], fun j hj => by rw [b.2.2.2.2.2.1 j hj, a.2.2.2.2.2.1 j hj], fun j hj => by rw [b.2.2.2.2.2.2 j hj, a.2.2.2.2.2.2 j hj]⟩
theorem frF_I {h h' : bg_G} (a : frF h h') : frI h h' := ⟨fun k k1 k2 k3 k4 k5 k6 k7 => a.1 k k1 k7, a.2, fun j _ => by rw [a.1 117 (by omega) (by omega)], fun j _ => by rw [a.1 119 (by omega) (by omega)], fun j _ => by rw [a.1 118 (by omega) (by omega)], fun j _ => by rw [a.1 120 (by omega) (by omega)], fun j _ => by rw [a.1 121 (by omega) (by omega)]⟩
theorem holdM_fr {h h' : bg_G} {B : Nat} {D : LD} (hD : holdM h B D) (e6 : h' 117 = h 117) (e7 : h' 118 = h 118) (e8 : h' 119 = h 119) (e9 : h' 120 = h 120) (e0 : h' 121 = h 121) : holdM h' B D := by
  unfold holdM
  rw [e6, e7, e8, e9, e0]
  exact hD
theorem rgB_fr {h h' : bg_G} {B : Nat} (hD : rgB h B) (e7 : h' 118 = h 118) (e9 : h' 120 = h 120) : rgB h' B := by
  unfold rgB
  rw [e7, e9]
  exact hD
theorem okP_mk {l : List Int} (h : gl l 0 ≠ gl l 1) (h0 : gl l 0 ≤ 7) (h1 : gl l 1 ≤ 7) (h2 : gl l 2 ≤ 99) (h3 : gl l 3 ≤ 99) (h4 : gl l 4 ≤ 20) (h5 : gl l 5 ≤ 100) (h6 : gl l 6 ≤ 99) : okP l := by
  refine ⟨h, fun i hi => ?_⟩
  match i, hi with
  | 0, _ => exact h0
  | 1, _ => exact h1
  | 2, _ => exact h2
  | 3, _ => exact h3
  | 4, _ => exact h4
  | 5, _ => exact h5
  | 6, _ => exact h6
  | i + 7, hi => exact absurd hi (by omega)
theorem s_mpathItem (d n a L : Nat) (ha : a ≤ 401) (T : Int → Int) (D : LD) (hD1 : D.1.length ≤ 12) (h : bg_G) (ht : txM h T L) (h18 : h 115 18 = a) (hh : holdM h 3 D) (hg : rgB h 3) (Rt : bg_R) (hR1 : ∀ (l : List Int) (e : Nat), nums (byt T L) 7 a = some (l, e) → okP l → D.1.length < 12 → ∀ h' : bg_G, frI h h' → h' 115 18 = e → holdM h' 3 (D.1 ++ [l], D.2) → rgB h' 3 → Rt (some (.inl 1)) (bg_SH n, h')) (hR0 : (∀ (l : List Int) (e : Nat), nums (byt T L) 7 a = some (l, e) → ¬ (okP l ∧ D.1.length < 12)) → ∀ h' : bg_G, frI h h' → rgB h' 3 → Rt (some (.inl 0)) (bg_SH n, h')) : bg_Ca bg_MS (d + 3) 121 [vR 115] (bg_SH n, h) Rt := by
  obtain ⟨c, hc⟩ : ∃ c : Nat, c = D.1.length := ⟨_, rfl⟩
  obtain ⟨⟨a1, a2, a3, a4, a5⟩, b1, b2⟩ := id hh
  have a1 : h 117 3 = (c : Int) := by rw [hc]; exact a1
  rw [← hc] at hR1 hR0 hD1 b1
  refine bg_ca (cd := cd_X9_pathItem) rfl rfl ?_
  intro X hX
  cases hn : nums (byt T L) 7 a with
  | none =>
    iterate 2 (refine hX _ ?_; conv => whnf)
    refine hX _ ?_; conv => whnf
    try simp (disch := omega) only [bg_w_id, Int.toNat_natCast, rw_land, sh_land, not_true_eq_false]
    refine s_mfigures (d + 0) n 7 a L (by omega) ha T h ht h18 _ (fun l e q => absurd (hn.symm.trans q) (by simp)) (fun _ h' f1 => ?_)
    conv => whnf
    refine hX _ ?_; conv => whnf
    refine ⟨fun q6 => ?_, fun q6 => ?_⟩
    · try simp (disch := omega) only [bg_w_id, Int.toNat_natCast, rw_land, sh_land, not_true_eq_false, kc0, kc1, kc2, kc3, kc4, kc5, kc6, kc7, kc8, kc9, kc10, kc11, kc12, kc13, kc14, kc15, kc16, kc17, kc18, kc19, kc20, kc21, kc22, kc23, kc24, kc25, kc26, kc27, kc28, kc29, kc30, kc31, kc32, kc33] at q6
      refine hX _ ?_; conv => whnf
      refine hX _ ?_; conv => whnf
      exact ⟨by omega, hR0 (fun l e q => absurd (hn.symm.trans q) (by simp)) h' (frF_I f1) (rgB_fr hg (f1.1 118 (by omega) (by omega)) (f1.1 120 (by omega) (by omega)))⟩
    · exfalso
      (try simp (disch := omega) only [bg_w_id, Int.toNat_natCast, rw_land, sh_land, not_true_eq_false, kc0, kc1, kc2, kc3, kc4, kc5, kc6, kc7, kc8, kc9, kc10, kc11, kc12, kc13, kc14, kc15, kc16, kc17, kc18, kc19, kc20, kc21, kc22, kc23, kc24, kc25, kc26, kc27, kc28, kc29, kc30, kc31, kc32, kc33] at q6) <;> (omega)
  | some pr =>
    obtain ⟨l, e⟩ := pr
    have nr := nums_rg _ _ l e hn
    have gg := gl_rg nr.2.2.2.2
    have gg0 := gg 0
    have gg1 := gg 1
    have gg2 := gg 2
    have gg3 := gg 3
    have gg4 := gg 4
    have gg5 := gg 5
    have gg6 := gg 6
    -- the state behind the numbers
    have go : ∀ h1 : bg_G, frF h h1 → h1 115 18 = (e : Int) → (∀ i : Nat, i < 7 → h1 129 i = gl l i) → X (9, [oR 115, none], [], (bg_SH n, h1), (0, 0)) := by
      intro h1 f1 f2 f3
      have e116 : h1 117 3 = (c : Int) := by rw [f1.1 117 (by omega) (by omega)]; exact a1
      have e0 : h1 129 0 = gl l 0 := f3 0 (by omega)
      have e1 : h1 129 1 = gl l 1 := f3 1 (by omega)
      have e2 : h1 129 2 = gl l 2 := f3 2 (by omega)
      have e3 : h1 129 3 = gl l 3 := f3 3 (by omega)
      have e4 : h1 129 4 = gl l 4 := f3 4 (by omega)
      have e5 : h1 129 5 = gl l 5 := f3 5 (by omega)
      have e6 : h1 129 6 = gl l 6 := f3 6 (by omega)
      by_cases c1 : okP l ∧ c < 12
      · have k0 : gl l 0 ≤ 7 := c1.1.2 0 (by omega)
        have k1 : gl l 1 ≤ 7 := c1.1.2 1 (by omega)
        have k2 : gl l 2 ≤ 99 := c1.1.2 2 (by omega)
        have k3 : gl l 3 ≤ 99 := c1.1.2 3 (by omega)
        have k4 : gl l 4 ≤ 20 := c1.1.2 4 (by omega)
        have k5 : gl l 5 ≤ 100 := c1.1.2 5 (by omega)
        have k6 : gl l 6 ≤ 99 := c1.1.2 6 (by omega)
        have k01 := c1.1.1
        have l1 : ∀ i : Nat, i ≤ 7 → ∀ h2 : bg_G, (∀ k, k ≠ 118 → h2 k = h1 k) → (∀ j, ¬ (252 + 7 * (c : Int) ≤ j ∧ j < 252 + 7 * (c : Int) + i) → h2 118 j = h1 118 j) → (∀ j : Nat, j < i → h2 118 (252 + 7 * (c : Int) + j) = gl l j) → X (117, [oR 115, oI (i : Int)], [], (bg_SH n, h2), (0, 0)) := by
          refine lp_up 7 _ ?_ (fun i hi ih => ?_)
          · intro h2 g1 g2 g3
            have e116' : h2 117 3 = (c : Int) := by rw [g1 117 (by omega)]; exact e116
            iterate 2 (refine hX _ ?_; conv => whnf)
            refine hX _ ?_; conv => whnf
            refine ⟨fun q120 => ?_, fun q120 => ?_⟩
            · try simp (disch := omega) only [bg_w_id, Int.toNat_natCast, rw_land, sh_land, not_true_eq_false, e116', kc0, kc1, kc2, kc3, kc4, kc5, kc6, kc7, kc8, kc9, kc10, kc11, kc12, kc13, kc14, kc15, kc16, kc17, kc18, kc19, kc20, kc21, kc22, kc23, kc24, kc25, kc26, kc27, kc28, kc29, kc30, kc31, kc32, kc33] at q120
              iterate 4 (refine hX _ ?_; conv => whnf)
              refine hX _ ?_; conv => whnf
              try (simp (disch := omega) only [bg_w_id, Int.toNat_natCast, rw_land, sh_land, not_true_eq_false, e116']; try conv => whnf)
              refine ⟨by first | omega | (simp (disch := omega) only [bg_w_id, Int.toNat_natCast, rw_land, sh_land, not_true_eq_false, e116']; omega), ?_⟩
              iterate 2 (refine hX _ ?_; conv => whnf)
              refine hX _ ?_; conv => whnf
              try (simp (disch := omega) only [bg_w_id, Int.toNat_natCast, rw_land, sh_land, not_true_eq_false, e116']; try conv => whnf)
              refine ⟨by first | omega | (simp (disch := omega) only [bg_w_id, Int.toNat_natCast, rw_land, sh_land, not_true_eq_false, e116']; omega), ?_⟩
              refine hX _ ?_; conv => whnf
              refine hX _ ?_; conv => whnf
              try rw [e116']
              refine ⟨by omega, hR1 l e hn c1.1 c1.2 _ ⟨fun k k1 k2 k3 k4 k5 k6 k7 => ?_, fun j hj => ?_, fun j hj => ?_, fun j hj => ?_, fun j hj => ?_, fun j hj => ?_, fun j hj => ?_⟩ ?_ ⟨⟨?_, ?_, ?_, ?_, ?_⟩, fun p hp i hi => ?_, fun t ht i hi => ?_⟩ ⟨fun p hp i hi => ?_, fun t ht => ?_⟩⟩
              · rw [bg_up_ne k2, g1 k k3, f1.1 k k1 k7]
              · rw [bg_up_ne (by omega), g1 115 (by omega)]; exact f1.2 j hj
              · rw [bg_up_nj hj, g1 117 (by omega), f1.1 117 (by omega) (by omega)]
              · rw [bg_up_ne (by omega), g1 119 (by omega), f1.1 119 (by omega) (by omega)]
              · rw [bg_up_ne (by omega), g2 j (by omega), f1.1 118 (by omega) (by omega)]
              · rw [bg_up_ne (by omega), g1 120 (by omega), f1.1 120 (by omega) (by omega)]
              · rw [bg_up_ne (by omega), g1 121 (by omega), f1.1 121 (by omega) (by omega)]
              · rw [bg_up_ne (by omega), g1 115 (by omega)]; exact f2
              · show _ = (((D.1 ++ [l]).length : Nat) : Int)
                rw [show ((3 : Nat) : Int) = 3 from rfl, bg_up_self]
                simp
                omega
              · rw [bg_up_ne (by omega), g1 119 (by omega), f1.1 119 (by omega) (by omega)]; exact a2
              · rw [bg_up_ne (by omega), g1 121 (by omega), f1.1 121 (by omega) (by omega)]; exact a3
              · rw [bg_up_ne (by omega), g1 121 (by omega), f1.1 121 (by omega) (by omega)]; exact a4
              · rw [bg_up_ne (by omega), g1 121 (by omega), f1.1 121 (by omega) (by omega)]; exact a5
              · have hp : p < (D.1 ++ [l]).length := hp
                simp at hp
                show _ = gr (D.1 ++ [l]) p i
                rw [bg_up_ne (by omega), gr_snoc]
                by_cases x : p < D.1.length
                · rw [if_pos x, g2 _ (by omega), f1.1 118 (by omega) (by omega)]
                  exact b1 p (by omega) i hi
                · rw [if_neg x, if_pos (by omega), show (84 : Int) * ((3 : Nat) : Int) + 7 * (p : Int) + (i : Int) = 252 + 7 * (c : Int) + i by omega]
                  exact g3 i hi
              · rw [bg_up_ne (by omega), g1 120 (by omega), f1.1 120 (by omega) (by omega)]; exact b2 t ht i hi
              · rw [bg_up_ne (by omega)]
                by_cases x : p = c
                · rw [show (84 : Int) * ((3 : Nat) : Int) + 7 * (p : Int) + (i : Int) = 252 + 7 * (c : Int) + i by omega, g3 i hi]
                  exact ⟨(gg i).1, c1.1.2 i hi⟩
                · rw [g2 _ (by omega), f1.1 118 (by omega) (by omega)]
                  exact hg.1 p hp i hi
              · rw [bg_up_ne (by omega), g1 120 (by omega), f1.1 120 (by omega) (by omega)]; exact hg.2 t ht
            · exfalso
              (try simp (disch := omega) only [bg_w_id, Int.toNat_natCast, rw_land, sh_land, not_true_eq_false, e116', kc0, kc1, kc2, kc3, kc4, kc5, kc6, kc7, kc8, kc9, kc10, kc11, kc12, kc13, kc14, kc15, kc16, kc17, kc18, kc19, kc20, kc21, kc22, kc23, kc24, kc25, kc26, kc27, kc28, kc29, kc30, kc31, kc32, kc33] at q120) <;> (omega)
          · intro h2 g1 g2 g3
            have e116' : h2 117 3 = (c : Int) := by rw [g1 117 (by omega)]; exact e116
            have ei : h2 129 i = gl l i := by rw [g1 129 (by omega)]; exact f3 i hi
            have gi := gg i
            iterate 2 (refine hX _ ?_; conv => whnf)
            refine hX _ ?_; conv => whnf
            refine ⟨fun q120 => ?_, fun q120 => ?_⟩
            · exfalso
              (try simp (disch := omega) only [bg_w_id, Int.toNat_natCast, rw_land, sh_land, not_true_eq_false, e116', kc0, kc1, kc2, kc3, kc4, kc5, kc6, kc7, kc8, kc9, kc10, kc11, kc12, kc13, kc14, kc15, kc16, kc17, kc18, kc19, kc20, kc21, kc22, kc23, kc24, kc25, kc26, kc27, kc28, kc29, kc30, kc31, kc32, kc33] at q120) <;> (omega)
            · try simp (disch := omega) only [bg_w_id, Int.toNat_natCast, rw_land, sh_land, not_true_eq_false, e116', kc0, kc1, kc2, kc3, kc4, kc5, kc6, kc7, kc8, kc9, kc10, kc11, kc12, kc13, kc14, kc15, kc16, kc17, kc18, kc19, kc20, kc21, kc22, kc23, kc24, kc25, kc26, kc27, kc28, kc29, kc30, kc31, kc32, kc33] at q120
              iterate 7 (refine hX _ ?_; conv => whnf)
              refine hX _ ?_; conv => whnf
              try (simp (disch := omega) only [bg_w_id, Int.toNat_natCast, rw_land, sh_land, not_true_eq_false, e116']; try conv => whnf)
              refine ⟨by first | omega | (simp (disch := omega) only [bg_w_id, Int.toNat_natCast, rw_land, sh_land, not_true_eq_false, e116']; omega), ?_⟩
              iterate 7 (refine hX _ ?_; conv => whnf)
              refine hX _ ?_; conv => whnf
              try (simp (disch := omega) only [bg_w_id, Int.toNat_natCast, rw_land, sh_land, not_true_eq_false, e116']; try conv => whnf)
              refine ⟨by first | omega | (simp (disch := omega) only [bg_w_id, Int.toNat_natCast, rw_land, sh_land, not_true_eq_false, e116']; omega), ?_⟩
              refine hX _ ?_; conv => whnf
              try (simp (disch := omega) only [bg_w_id, Int.toNat_natCast, rw_land, sh_land, not_true_eq_false, e116']; try conv => whnf)
              refine ⟨by first | omega | (simp (disch := omega) only [bg_w_id, Int.toNat_natCast, rw_land, sh_land, not_true_eq_false, e116']; omega), ?_⟩
              iterate 2 (refine hX _ ?_; conv => whnf)
              refine ih _ (fun k hk => ?_) (fun j hj => ?_) (fun j hj => ?_)
              · rw [bg_up_ne hk]; exact g1 k hk
              · rw [bg_up_nj (by omega)]; exact g2 j (by omega)
              · by_cases x : j = i
                · subst x; rw [bg_up_self]; exact ei
                · rw [bg_up_nj (by omega)]; exact g3 j (by omega)
        iterate 3 (refine hX _ ?_; conv => whnf)
        refine hX _ ?_; conv => whnf
        try (simp (disch := omega) only [bg_w_id, Int.toNat_natCast, rw_land, sh_land, not_true_eq_false, e0, e1, e2, e3, e4, e5, e6, e116]; try conv => whnf)
        refine ⟨by first | omega | (simp (disch := omega) only [bg_w_id, Int.toNat_natCast, rw_land, sh_land, not_true_eq_false, e0, e1, e2, e3, e4, e5, e6, e116]; omega), ?_⟩
        refine hX _ ?_; conv => whnf
        refine hX _ ?_; conv => whnf
        refine ⟨fun q17 => ?_, fun q17 => ?_⟩
        · exfalso
          (try simp (disch := omega) only [bg_w_id, Int.toNat_natCast, rw_land, sh_land, not_true_eq_false, e0, e1, e2, e3, e4, e5, e6, e116, kc0, kc1, kc2, kc3, kc4, kc5, kc6, kc7, kc8, kc9, kc10, kc11, kc12, kc13, kc14, kc15, kc16, kc17, kc18, kc19, kc20, kc21, kc22, kc23, kc24, kc25, kc26, kc27, kc28, kc29, kc30, kc31, kc32, kc33] at q17) <;> (omega)
        · try simp (disch := omega) only [bg_w_id, Int.toNat_natCast, rw_land, sh_land, not_true_eq_false, e0, e1, e2, e3, e4, e5, e6, e116, kc0, kc1, kc2, kc3, kc4, kc5, kc6, kc7, kc8, kc9, kc10, kc11, kc12, kc13, kc14, kc15, kc16, kc17, kc18, kc19, kc20, kc21, kc22, kc23, kc24, kc25, kc26, kc27, kc28, kc29, kc30, kc31, kc32, kc33] at q17
          iterate 3 (refine hX _ ?_; conv => whnf)
          refine hX _ ?_; conv => whnf
          try (simp (disch := omega) only [bg_w_id, Int.toNat_natCast, rw_land, sh_land, not_true_eq_false, e0, e1, e2, e3, e4, e5, e6, e116]; try conv => whnf)
          refine ⟨by first | omega | (simp (disch := omega) only [bg_w_id, Int.toNat_natCast, rw_land, sh_land, not_true_eq_false, e0, e1, e2, e3, e4, e5, e6, e116]; omega), ?_⟩
          refine hX _ ?_; conv => whnf
          refine hX _ ?_; conv => whnf
          refine ⟨fun q28 => ?_, fun q28 => ?_⟩
          · exfalso
            (try simp (disch := omega) only [bg_w_id, Int.toNat_natCast, rw_land, sh_land, not_true_eq_false, e0, e1, e2, e3, e4, e5, e6, e116, kc0, kc1, kc2, kc3, kc4, kc5, kc6, kc7, kc8, kc9, kc10, kc11, kc12, kc13, kc14, kc15, kc16, kc17, kc18, kc19, kc20, kc21, kc22, kc23, kc24, kc25, kc26, kc27, kc28, kc29, kc30, kc31, kc32, kc33] at q28) <;> (omega)
          · try simp (disch := omega) only [bg_w_id, Int.toNat_natCast, rw_land, sh_land, not_true_eq_false, e0, e1, e2, e3, e4, e5, e6, e116, kc0, kc1, kc2, kc3, kc4, kc5, kc6, kc7, kc8, kc9, kc10, kc11, kc12, kc13, kc14, kc15, kc16, kc17, kc18, kc19, kc20, kc21, kc22, kc23, kc24, kc25, kc26, kc27, kc28, kc29, kc30, kc31, kc32, kc33] at q28
            iterate 3 (refine hX _ ?_; conv => whnf)
            refine hX _ ?_; conv => whnf
            try (simp (disch := omega) only [bg_w_id, Int.toNat_natCast, rw_land, sh_land, not_true_eq_false, e0, e1, e2, e3, e4, e5, e6, e116]; try conv => whnf)
            refine ⟨by first | omega | (simp (disch := omega) only [bg_w_id, Int.toNat_natCast, rw_land, sh_land, not_true_eq_false, e0, e1, e2, e3, e4, e5, e6, e116]; omega), ?_⟩
            iterate 3 (refine hX _ ?_; conv => whnf)
            refine hX _ ?_; conv => whnf
            try (simp (disch := omega) only [bg_w_id, Int.toNat_natCast, rw_land, sh_land, not_true_eq_false, e0, e1, e2, e3, e4, e5, e6, e116]; try conv => whnf)
            refine ⟨by first | omega | (simp (disch := omega) only [bg_w_id, Int.toNat_natCast, rw_land, sh_land, not_true_eq_false, e0, e1, e2, e3, e4, e5, e6, e116]; omega), ?_⟩
            refine hX _ ?_; conv => whnf
            refine ⟨fun q43 => ?_, fun q43 => ?_⟩
            · exfalso
              (try simp (disch := omega) only [bg_w_id, Int.toNat_natCast, rw_land, sh_land, not_true_eq_false, e0, e1, e2, e3, e4, e5, e6, e116, kc0, kc1, kc2, kc3, kc4, kc5, kc6, kc7, kc8, kc9, kc10, kc11, kc12, kc13, kc14, kc15, kc16, kc17, kc18, kc19, kc20, kc21, kc22, kc23, kc24, kc25, kc26, kc27, kc28, kc29, kc30, kc31, kc32, kc33] at q43) <;> (omega)
            · try simp (disch := omega) only [bg_w_id, Int.toNat_natCast, rw_land, sh_land, not_true_eq_false, e0, e1, e2, e3, e4, e5, e6, e116, kc0, kc1, kc2, kc3, kc4, kc5, kc6, kc7, kc8, kc9, kc10, kc11, kc12, kc13, kc14, kc15, kc16, kc17, kc18, kc19, kc20, kc21, kc22, kc23, kc24, kc25, kc26, kc27, kc28, kc29, kc30, kc31, kc32, kc33] at q43
              iterate 3 (refine hX _ ?_; conv => whnf)
              refine hX _ ?_; conv => whnf
              try (simp (disch := omega) only [bg_w_id, Int.toNat_natCast, rw_land, sh_land, not_true_eq_false, e0, e1, e2, e3, e4, e5, e6, e116]; try conv => whnf)
              refine ⟨by first | omega | (simp (disch := omega) only [bg_w_id, Int.toNat_natCast, rw_land, sh_land, not_true_eq_false, e0, e1, e2, e3, e4, e5, e6, e116]; omega), ?_⟩
              refine hX _ ?_; conv => whnf
              refine hX _ ?_; conv => whnf
              refine ⟨fun q54 => ?_, fun q54 => ?_⟩
              · exfalso
                (try simp (disch := omega) only [bg_w_id, Int.toNat_natCast, rw_land, sh_land, not_true_eq_false, e0, e1, e2, e3, e4, e5, e6, e116, kc0, kc1, kc2, kc3, kc4, kc5, kc6, kc7, kc8, kc9, kc10, kc11, kc12, kc13, kc14, kc15, kc16, kc17, kc18, kc19, kc20, kc21, kc22, kc23, kc24, kc25, kc26, kc27, kc28, kc29, kc30, kc31, kc32, kc33] at q54) <;> (omega)
              · try simp (disch := omega) only [bg_w_id, Int.toNat_natCast, rw_land, sh_land, not_true_eq_false, e0, e1, e2, e3, e4, e5, e6, e116, kc0, kc1, kc2, kc3, kc4, kc5, kc6, kc7, kc8, kc9, kc10, kc11, kc12, kc13, kc14, kc15, kc16, kc17, kc18, kc19, kc20, kc21, kc22, kc23, kc24, kc25, kc26, kc27, kc28, kc29, kc30, kc31, kc32, kc33] at q54
                iterate 3 (refine hX _ ?_; conv => whnf)
                refine hX _ ?_; conv => whnf
                try (simp (disch := omega) only [bg_w_id, Int.toNat_natCast, rw_land, sh_land, not_true_eq_false, e0, e1, e2, e3, e4, e5, e6, e116]; try conv => whnf)
                refine ⟨by first | omega | (simp (disch := omega) only [bg_w_id, Int.toNat_natCast, rw_land, sh_land, not_true_eq_false, e0, e1, e2, e3, e4, e5, e6, e116]; omega), ?_⟩
                refine hX _ ?_; conv => whnf
                refine hX _ ?_; conv => whnf
                refine ⟨fun q65 => ?_, fun q65 => ?_⟩
                · exfalso
                  (try simp (disch := omega) only [bg_w_id, Int.toNat_natCast, rw_land, sh_land, not_true_eq_false, e0, e1, e2, e3, e4, e5, e6, e116, kc0, kc1, kc2, kc3, kc4, kc5, kc6, kc7, kc8, kc9, kc10, kc11, kc12, kc13, kc14, kc15, kc16, kc17, kc18, kc19, kc20, kc21, kc22, kc23, kc24, kc25, kc26, kc27, kc28, kc29, kc30, kc31, kc32, kc33] at q65) <;> (omega)
                · try simp (disch := omega) only [bg_w_id, Int.toNat_natCast, rw_land, sh_land, not_true_eq_false, e0, e1, e2, e3, e4, e5, e6, e116, kc0, kc1, kc2, kc3, kc4, kc5, kc6, kc7, kc8, kc9, kc10, kc11, kc12, kc13, kc14, kc15, kc16, kc17, kc18, kc19, kc20, kc21, kc22, kc23, kc24, kc25, kc26, kc27, kc28, kc29, kc30, kc31, kc32, kc33] at q65
                  iterate 3 (refine hX _ ?_; conv => whnf)
                  refine hX _ ?_; conv => whnf
                  try (simp (disch := omega) only [bg_w_id, Int.toNat_natCast, rw_land, sh_land, not_true_eq_false, e0, e1, e2, e3, e4, e5, e6, e116]; try conv => whnf)
                  refine ⟨by first | omega | (simp (disch := omega) only [bg_w_id, Int.toNat_natCast, rw_land, sh_land, not_true_eq_false, e0, e1, e2, e3, e4, e5, e6, e116]; omega), ?_⟩
                  refine hX _ ?_; conv => whnf
                  refine hX _ ?_; conv => whnf
                  refine ⟨fun q76 => ?_, fun q76 => ?_⟩
                  · exfalso
                    (try simp (disch := omega) only [bg_w_id, Int.toNat_natCast, rw_land, sh_land, not_true_eq_false, e0, e1, e2, e3, e4, e5, e6, e116, kc0, kc1, kc2, kc3, kc4, kc5, kc6, kc7, kc8, kc9, kc10, kc11, kc12, kc13, kc14, kc15, kc16, kc17, kc18, kc19, kc20, kc21, kc22, kc23, kc24, kc25, kc26, kc27, kc28, kc29, kc30, kc31, kc32, kc33] at q76) <;> (omega)
                  · try simp (disch := omega) only [bg_w_id, Int.toNat_natCast, rw_land, sh_land, not_true_eq_false, e0, e1, e2, e3, e4, e5, e6, e116, kc0, kc1, kc2, kc3, kc4, kc5, kc6, kc7, kc8, kc9, kc10, kc11, kc12, kc13, kc14, kc15, kc16, kc17, kc18, kc19, kc20, kc21, kc22, kc23, kc24, kc25, kc26, kc27, kc28, kc29, kc30, kc31, kc32, kc33] at q76
                    iterate 3 (refine hX _ ?_; conv => whnf)
                    refine hX _ ?_; conv => whnf
                    try (simp (disch := omega) only [bg_w_id, Int.toNat_natCast, rw_land, sh_land, not_true_eq_false, e0, e1, e2, e3, e4, e5, e6, e116]; try conv => whnf)
                    refine ⟨by first | omega | (simp (disch := omega) only [bg_w_id, Int.toNat_natCast, rw_land, sh_land, not_true_eq_false, e0, e1, e2, e3, e4, e5, e6, e116]; omega), ?_⟩
                    refine hX _ ?_; conv => whnf
                    refine hX _ ?_; conv => whnf
                    refine ⟨fun q87 => ?_, fun q87 => ?_⟩
                    · exfalso
                      (try simp (disch := omega) only [bg_w_id, Int.toNat_natCast, rw_land, sh_land, not_true_eq_false, e0, e1, e2, e3, e4, e5, e6, e116, kc0, kc1, kc2, kc3, kc4, kc5, kc6, kc7, kc8, kc9, kc10, kc11, kc12, kc13, kc14, kc15, kc16, kc17, kc18, kc19, kc20, kc21, kc22, kc23, kc24, kc25, kc26, kc27, kc28, kc29, kc30, kc31, kc32, kc33] at q87) <;> (omega)
                    · try simp (disch := omega) only [bg_w_id, Int.toNat_natCast, rw_land, sh_land, not_true_eq_false, e0, e1, e2, e3, e4, e5, e6, e116, kc0, kc1, kc2, kc3, kc4, kc5, kc6, kc7, kc8, kc9, kc10, kc11, kc12, kc13, kc14, kc15, kc16, kc17, kc18, kc19, kc20, kc21, kc22, kc23, kc24, kc25, kc26, kc27, kc28, kc29, kc30, kc31, kc32, kc33] at q87
                      iterate 3 (refine hX _ ?_; conv => whnf)
                      refine hX _ ?_; conv => whnf
                      try (simp (disch := omega) only [bg_w_id, Int.toNat_natCast, rw_land, sh_land, not_true_eq_false, e0, e1, e2, e3, e4, e5, e6, e116]; try conv => whnf)
                      refine ⟨by first | omega | (simp (disch := omega) only [bg_w_id, Int.toNat_natCast, rw_land, sh_land, not_true_eq_false, e0, e1, e2, e3, e4, e5, e6, e116]; omega), ?_⟩
                      refine hX _ ?_; conv => whnf
                      refine hX _ ?_; conv => whnf
                      refine ⟨fun q99 => ?_, fun q99 => ?_⟩
                      · exfalso
                        (try simp (disch := omega) only [bg_w_id, Int.toNat_natCast, rw_land, sh_land, not_true_eq_false, e0, e1, e2, e3, e4, e5, e6, e116, kc0, kc1, kc2, kc3, kc4, kc5, kc6, kc7, kc8, kc9, kc10, kc11, kc12, kc13, kc14, kc15, kc16, kc17, kc18, kc19, kc20, kc21, kc22, kc23, kc24, kc25, kc26, kc27, kc28, kc29, kc30, kc31, kc32, kc33] at q99) <;> (omega)
                      · try simp (disch := omega) only [bg_w_id, Int.toNat_natCast, rw_land, sh_land, not_true_eq_false, e0, e1, e2, e3, e4, e5, e6, e116, kc0, kc1, kc2, kc3, kc4, kc5, kc6, kc7, kc8, kc9, kc10, kc11, kc12, kc13, kc14, kc15, kc16, kc17, kc18, kc19, kc20, kc21, kc22, kc23, kc24, kc25, kc26, kc27, kc28, kc29, kc30, kc31, kc32, kc33] at q99
                        iterate 3 (refine hX _ ?_; conv => whnf)
                        refine hX _ ?_; conv => whnf
                        try (simp (disch := omega) only [bg_w_id, Int.toNat_natCast, rw_land, sh_land, not_true_eq_false, e0, e1, e2, e3, e4, e5, e6, e116]; try conv => whnf)
                        refine ⟨by first | omega | (simp (disch := omega) only [bg_w_id, Int.toNat_natCast, rw_land, sh_land, not_true_eq_false, e0, e1, e2, e3, e4, e5, e6, e116]; omega), ?_⟩
                        refine hX _ ?_; conv => whnf
                        refine hX _ ?_; conv => whnf
                        refine ⟨fun q110 => ?_, fun q110 => ?_⟩
                        · try simp (disch := omega) only [bg_w_id, Int.toNat_natCast, rw_land, sh_land, not_true_eq_false, e0, e1, e2, e3, e4, e5, e6, e116, kc0, kc1, kc2, kc3, kc4, kc5, kc6, kc7, kc8, kc9, kc10, kc11, kc12, kc13, kc14, kc15, kc16, kc17, kc18, kc19, kc20, kc21, kc22, kc23, kc24, kc25, kc26, kc27, kc28, kc29, kc30, kc31, kc32, kc33] at q110
                          iterate 2 (refine hX _ ?_; conv => whnf)
                          exact l1 0 (by omega) h1 (fun _ _ => rfl) (fun _ _ => rfl) (fun j hj => absurd hj (by omega))
                        · exfalso
                          (try simp (disch := omega) only [bg_w_id, Int.toNat_natCast, rw_land, sh_land, not_true_eq_false, e0, e1, e2, e3, e4, e5, e6, e116, kc0, kc1, kc2, kc3, kc4, kc5, kc6, kc7, kc8, kc9, kc10, kc11, kc12, kc13, kc14, kc15, kc16, kc17, kc18, kc19, kc20, kc21, kc22, kc23, kc24, kc25, kc26, kc27, kc28, kc29, kc30, kc31, kc32, kc33] at q110) <;> (omega)
      · have hR0 := hR0 (fun l' e' q => by
          rw [hn, Option.some.injEq, Prod.mk.injEq] at q
          rw [← q.1]
          exact c1) h1 (frF_I f1) (rgB_fr hg (f1.1 118 (by omega) (by omega)) (f1.1 120 (by omega) (by omega)))
        iterate 3 (refine hX _ ?_; conv => whnf)
        refine hX _ ?_; conv => whnf
        try (simp (disch := omega) only [bg_w_id, Int.toNat_natCast, rw_land, sh_land, not_true_eq_false, e0, e1, e2, e3, e4, e5, e6, e116]; try conv => whnf)
        refine ⟨by first | omega | (simp (disch := omega) only [bg_w_id, Int.toNat_natCast, rw_land, sh_land, not_true_eq_false, e0, e1, e2, e3, e4, e5, e6, e116]; omega), ?_⟩
        refine hX _ ?_; conv => whnf
        refine hX _ ?_; conv => whnf
        refine ⟨fun q17 => ?_, fun q17 => ?_⟩
        · try simp (disch := omega) only [bg_w_id, Int.toNat_natCast, rw_land, sh_land, not_true_eq_false, e0, e1, e2, e3, e4, e5, e6, e116, kc0, kc1, kc2, kc3, kc4, kc5, kc6, kc7, kc8, kc9, kc10, kc11, kc12, kc13, kc14, kc15, kc16, kc17, kc18, kc19, kc20, kc21, kc22, kc23, kc24, kc25, kc26, kc27, kc28, kc29, kc30, kc31, kc32, kc33] at q17
          refine hX _ ?_; conv => whnf
          refine hX _ ?_; conv => whnf
          exact ⟨by omega, hR0⟩
        · try simp (disch := omega) only [bg_w_id, Int.toNat_natCast, rw_land, sh_land, not_true_eq_false, e0, e1, e2, e3, e4, e5, e6, e116, kc0, kc1, kc2, kc3, kc4, kc5, kc6, kc7, kc8, kc9, kc10, kc11, kc12, kc13, kc14, kc15, kc16, kc17, kc18, kc19, kc20, kc21, kc22, kc23, kc24, kc25, kc26, kc27, kc28, kc29, kc30, kc31, kc32, kc33] at q17
          iterate 3 (refine hX _ ?_; conv => whnf)
          refine hX _ ?_; conv => whnf
          try (simp (disch := omega) only [bg_w_id, Int.toNat_natCast, rw_land, sh_land, not_true_eq_false, e0, e1, e2, e3, e4, e5, e6, e116]; try conv => whnf)
          refine ⟨by first | omega | (simp (disch := omega) only [bg_w_id, Int.toNat_natCast, rw_land, sh_land, not_true_eq_false, e0, e1, e2, e3, e4, e5, e6, e116]; omega), ?_⟩
          refine hX _ ?_; conv => whnf
          refine hX _ ?_; conv => whnf
          refine ⟨fun q28 => ?_, fun q28 => ?_⟩
          · try simp (disch := omega) only [bg_w_id, Int.toNat_natCast, rw_land, sh_land, not_true_eq_false, e0, e1, e2, e3, e4, e5, e6, e116, kc0, kc1, kc2, kc3, kc4, kc5, kc6, kc7, kc8, kc9, kc10, kc11, kc12, kc13, kc14, kc15, kc16, kc17, kc18, kc19, kc20, kc21, kc22, kc23, kc24, kc25, kc26, kc27, kc28, kc29, kc30, kc31, kc32, kc33] at q28
            refine hX _ ?_; conv => whnf
            refine hX _ ?_; conv => whnf
            exact ⟨by omega, hR0⟩
          · try simp (disch := omega) only [bg_w_id, Int.toNat_natCast, rw_land, sh_land, not_true_eq_false, e0, e1, e2, e3, e4, e5, e6, e116, kc0, kc1, kc2, kc3, kc4, kc5, kc6, kc7, kc8, kc9, kc10, kc11, kc12, kc13, kc14, kc15, kc16, kc17, kc18, kc19, kc20, kc21, kc22, kc23, kc24, kc25, kc26, kc27, kc28, kc29, kc30, kc31, kc32, kc33] at q28
            iterate 3 (refine hX _ ?_; conv => whnf)
            refine hX _ ?_; conv => whnf
            try (simp (disch := omega) only [bg_w_id, Int.toNat_natCast, rw_land, sh_land, not_true_eq_false, e0, e1, e2, e3, e4, e5, e6, e116]; try conv => whnf)
            refine ⟨by first | omega | (simp (disch := omega) only [bg_w_id, Int.toNat_natCast, rw_land, sh_land, not_true_eq_false, e0, e1, e2, e3, e4, e5, e6, e116]; omega), ?_⟩
            iterate 3 (refine hX _ ?_; conv => whnf)
            refine hX _ ?_; conv => whnf
            try (simp (disch := omega) only [bg_w_id, Int.toNat_natCast, rw_land, sh_land, not_true_eq_false, e0, e1, e2, e3, e4, e5, e6, e116]; try conv => whnf)
            refine ⟨by first | omega | (simp (disch := omega) only [bg_w_id, Int.toNat_natCast, rw_land, sh_land, not_true_eq_false, e0, e1, e2, e3, e4, e5, e6, e116]; omega), ?_⟩
            refine hX _ ?_; conv => whnf
            refine ⟨fun q43 => ?_, fun q43 => ?_⟩
            · try simp (disch := omega) only [bg_w_id, Int.toNat_natCast, rw_land, sh_land, not_true_eq_false, e0, e1, e2, e3, e4, e5, e6, e116, kc0, kc1, kc2, kc3, kc4, kc5, kc6, kc7, kc8, kc9, kc10, kc11, kc12, kc13, kc14, kc15, kc16, kc17, kc18, kc19, kc20, kc21, kc22, kc23, kc24, kc25, kc26, kc27, kc28, kc29, kc30, kc31, kc32, kc33] at q43
              refine hX _ ?_; conv => whnf
              refine hX _ ?_; conv => whnf
              exact ⟨by omega, hR0⟩
            · try simp (disch := omega) only [bg_w_id, Int.toNat_natCast, rw_land, sh_land, not_true_eq_false, e0, e1, e2, e3, e4, e5, e6, e116, kc0, kc1, kc2, kc3, kc4, kc5, kc6, kc7, kc8, kc9, kc10, kc11, kc12, kc13, kc14, kc15, kc16, kc17, kc18, kc19, kc20, kc21, kc22, kc23, kc24, kc25, kc26, kc27, kc28, kc29, kc30, kc31, kc32, kc33] at q43
              iterate 3 (refine hX _ ?_; conv => whnf)
              refine hX _ ?_; conv => whnf
              try (simp (disch := omega) only [bg_w_id, Int.toNat_natCast, rw_land, sh_land, not_true_eq_false, e0, e1, e2, e3, e4, e5, e6, e116]; try conv => whnf)
              refine ⟨by first | omega | (simp (disch := omega) only [bg_w_id, Int.toNat_natCast, rw_land, sh_land, not_true_eq_false, e0, e1, e2, e3, e4, e5, e6, e116]; omega), ?_⟩
              refine hX _ ?_; conv => whnf
              refine hX _ ?_; conv => whnf
              refine ⟨fun q54 => ?_, fun q54 => ?_⟩
              · try simp (disch := omega) only [bg_w_id, Int.toNat_natCast, rw_land, sh_land, not_true_eq_false, e0, e1, e2, e3, e4, e5, e6, e116, kc0, kc1, kc2, kc3, kc4, kc5, kc6, kc7, kc8, kc9, kc10, kc11, kc12, kc13, kc14, kc15, kc16, kc17, kc18, kc19, kc20, kc21, kc22, kc23, kc24, kc25, kc26, kc27, kc28, kc29, kc30, kc31, kc32, kc33] at q54
                refine hX _ ?_; conv => whnf
                refine hX _ ?_; conv => whnf
                exact ⟨by omega, hR0⟩
              · try simp (disch := omega) only [bg_w_id, Int.toNat_natCast, rw_land, sh_land, not_true_eq_false, e0, e1, e2, e3, e4, e5, e6, e116, kc0, kc1, kc2, kc3, kc4, kc5, kc6, kc7, kc8, kc9, kc10, kc11, kc12, kc13, kc14, kc15, kc16, kc17, kc18, kc19, kc20, kc21, kc22, kc23, kc24, kc25, kc26, kc27, kc28, kc29, kc30, kc31, kc32, kc33] at q54
                iterate 3 (refine hX _ ?_; conv => whnf)
                refine hX _ ?_; conv => whnf
                try (simp (disch := omega) only [bg_w_id, Int.toNat_natCast, rw_land, sh_land, not_true_eq_false, e0, e1, e2, e3, e4, e5, e6, e116]; try conv => whnf)
                refine ⟨by first | omega | (simp (disch := omega) only [bg_w_id, Int.toNat_natCast, rw_land, sh_land, not_true_eq_false, e0, e1, e2, e3, e4, e5, e6, e116]; omega), ?_⟩
                refine hX _ ?_; conv => whnf
                refine hX _ ?_; conv => whnf
                refine ⟨fun q65 => ?_, fun q65 => ?_⟩
                · try simp (disch := omega) only [bg_w_id, Int.toNat_natCast, rw_land, sh_land, not_true_eq_false, e0, e1, e2, e3, e4, e5, e6, e116, kc0, kc1, kc2, kc3, kc4, kc5, kc6, kc7, kc8, kc9, kc10, kc11, kc12, kc13, kc14, kc15, kc16, kc17, kc18, kc19, kc20, kc21, kc22, kc23, kc24, kc25, kc26, kc27, kc28, kc29, kc30, kc31, kc32, kc33] at q65
                  refine hX _ ?_; conv => whnf
                  refine hX _ ?_; conv => whnf
                  exact ⟨by omega, hR0⟩
                · try simp (disch := omega) only [bg_w_id, Int.toNat_natCast, rw_land, sh_land, not_true_eq_false, e0, e1, e2, e3, e4, e5, e6, e116, kc0, kc1, kc2, kc3, kc4, kc5, kc6, kc7, kc8, kc9, kc10, kc11, kc12, kc13, kc14, kc15, kc16, kc17, kc18, kc19, kc20, kc21, kc22, kc23, kc24, kc25, kc26, kc27, kc28, kc29, kc30, kc31, kc32, kc33] at q65
                  iterate 3 (refine hX _ ?_; conv => whnf)
                  refine hX _ ?_; conv => whnf
                  try (simp (disch := omega) only [bg_w_id, Int.toNat_natCast, rw_land, sh_land, not_true_eq_false, e0, e1, e2, e3, e4, e5, e6, e116]; try conv => whnf)
                  refine ⟨by first | omega | (simp (disch := omega) only [bg_w_id, Int.toNat_natCast, rw_land, sh_land, not_true_eq_false, e0, e1, e2, e3, e4, e5, e6, e116]; omega), ?_⟩
                  refine hX _ ?_; conv => whnf
                  refine hX _ ?_; conv => whnf
                  refine ⟨fun q76 => ?_, fun q76 => ?_⟩
                  · try simp (disch := omega) only [bg_w_id, Int.toNat_natCast, rw_land, sh_land, not_true_eq_false, e0, e1, e2, e3, e4, e5, e6, e116, kc0, kc1, kc2, kc3, kc4, kc5, kc6, kc7, kc8, kc9, kc10, kc11, kc12, kc13, kc14, kc15, kc16, kc17, kc18, kc19, kc20, kc21, kc22, kc23, kc24, kc25, kc26, kc27, kc28, kc29, kc30, kc31, kc32, kc33] at q76
                    refine hX _ ?_; conv => whnf
                    refine hX _ ?_; conv => whnf
                    exact ⟨by omega, hR0⟩
                  · try simp (disch := omega) only [bg_w_id, Int.toNat_natCast, rw_land, sh_land, not_true_eq_false, e0, e1, e2, e3, e4, e5, e6, e116, kc0, kc1, kc2, kc3, kc4, kc5, kc6, kc7, kc8, kc9, kc10, kc11, kc12, kc13, kc14, kc15, kc16, kc17, kc18, kc19, kc20, kc21, kc22, kc23, kc24, kc25, kc26, kc27, kc28, kc29, kc30, kc31, kc32, kc33] at q76
                    iterate 3 (refine hX _ ?_; conv => whnf)
                    refine hX _ ?_; conv => whnf
                    try (simp (disch := omega) only [bg_w_id, Int.toNat_natCast, rw_land, sh_land, not_true_eq_false, e0, e1, e2, e3, e4, e5, e6, e116]; try conv => whnf)
                    refine ⟨by first | omega | (simp (disch := omega) only [bg_w_id, Int.toNat_natCast, rw_land, sh_land, not_true_eq_false, e0, e1, e2, e3, e4, e5, e6, e116]; omega), ?_⟩
                    refine hX _ ?_; conv => whnf
                    refine hX _ ?_; conv => whnf
                    refine ⟨fun q87 => ?_, fun q87 => ?_⟩
                    · try simp (disch := omega) only [bg_w_id, Int.toNat_natCast, rw_land, sh_land, not_true_eq_false, e0, e1, e2, e3, e4, e5, e6, e116, kc0, kc1, kc2, kc3, kc4, kc5, kc6, kc7, kc8, kc9, kc10, kc11, kc12, kc13, kc14, kc15, kc16, kc17, kc18, kc19, kc20, kc21, kc22, kc23, kc24, kc25, kc26, kc27, kc28, kc29, kc30, kc31, kc32, kc33] at q87
                      refine hX _ ?_; conv => whnf
                      refine hX _ ?_; conv => whnf
                      exact ⟨by omega, hR0⟩
                    · try simp (disch := omega) only [bg_w_id, Int.toNat_natCast, rw_land, sh_land, not_true_eq_false, e0, e1, e2, e3, e4, e5, e6, e116, kc0, kc1, kc2, kc3, kc4, kc5, kc6, kc7, kc8, kc9, kc10, kc11, kc12, kc13, kc14, kc15, kc16, kc17, kc18, kc19, kc20, kc21, kc22, kc23, kc24, kc25, kc26, kc27, kc28, kc29, kc30, kc31, kc32, kc33] at q87
                      iterate 3 (refine hX _ ?_; conv => whnf)
                      refine hX _ ?_; conv => whnf
                      try (simp (disch := omega) only [bg_w_id, Int.toNat_natCast, rw_land, sh_land, not_true_eq_false, e0, e1, e2, e3, e4, e5, e6, e116]; try conv => whnf)
                      refine ⟨by first | omega | (simp (disch := omega) only [bg_w_id, Int.toNat_natCast, rw_land, sh_land, not_true_eq_false, e0, e1, e2, e3, e4, e5, e6, e116]; omega), ?_⟩
                      refine hX _ ?_; conv => whnf
                      refine hX _ ?_; conv => whnf
                      refine ⟨fun q99 => ?_, fun q99 => ?_⟩
                      · try simp (disch := omega) only [bg_w_id, Int.toNat_natCast, rw_land, sh_land, not_true_eq_false, e0, e1, e2, e3, e4, e5, e6, e116, kc0, kc1, kc2, kc3, kc4, kc5, kc6, kc7, kc8, kc9, kc10, kc11, kc12, kc13, kc14, kc15, kc16, kc17, kc18, kc19, kc20, kc21, kc22, kc23, kc24, kc25, kc26, kc27, kc28, kc29, kc30, kc31, kc32, kc33] at q99
                        refine hX _ ?_; conv => whnf
                        refine hX _ ?_; conv => whnf
                        exact ⟨by omega, hR0⟩
                      · try simp (disch := omega) only [bg_w_id, Int.toNat_natCast, rw_land, sh_land, not_true_eq_false, e0, e1, e2, e3, e4, e5, e6, e116, kc0, kc1, kc2, kc3, kc4, kc5, kc6, kc7, kc8, kc9, kc10, kc11, kc12, kc13, kc14, kc15, kc16, kc17, kc18, kc19, kc20, kc21, kc22, kc23, kc24, kc25, kc26, kc27, kc28, kc29, kc30, kc31, kc32, kc33] at q99
                        iterate 3 (refine hX _ ?_; conv => whnf)
                        refine hX _ ?_; conv => whnf
                        try (simp (disch := omega) only [bg_w_id, Int.toNat_natCast, rw_land, sh_land, not_true_eq_false, e0, e1, e2, e3, e4, e5, e6, e116]; try conv => whnf)
                        refine ⟨by first | omega | (simp (disch := omega) only [bg_w_id, Int.toNat_natCast, rw_land, sh_land, not_true_eq_false, e0, e1, e2, e3, e4, e5, e6, e116]; omega), ?_⟩
                        refine hX _ ?_; conv => whnf
                        refine hX _ ?_; conv => whnf
                        refine ⟨fun q110 => ?_, fun q110 => ?_⟩
                        · try simp (disch := omega) only [bg_w_id, Int.toNat_natCast, rw_land, sh_land, not_true_eq_false, e0, e1, e2, e3, e4, e5, e6, e116, kc0, kc1, kc2, kc3, kc4, kc5, kc6, kc7, kc8, kc9, kc10, kc11, kc12, kc13, kc14, kc15, kc16, kc17, kc18, kc19, kc20, kc21, kc22, kc23, kc24, kc25, kc26, kc27, kc28, kc29, kc30, kc31, kc32, kc33] at q110
                          exact absurd ⟨okP_mk (by omega) (by omega) (by omega) (by omega) (by omega) (by omega) (by omega) (by omega), by omega⟩ c1
                        · try simp (disch := omega) only [bg_w_id, Int.toNat_natCast, rw_land, sh_land, not_true_eq_false, e0, e1, e2, e3, e4, e5, e6, e116, kc0, kc1, kc2, kc3, kc4, kc5, kc6, kc7, kc8, kc9, kc10, kc11, kc12, kc13, kc14, kc15, kc16, kc17, kc18, kc19, kc20, kc21, kc22, kc23, kc24, kc25, kc26, kc27, kc28, kc29, kc30, kc31, kc32, kc33] at q110
                          refine hX _ ?_; conv => whnf
                          refine hX _ ?_; conv => whnf
                          exact ⟨by omega, hR0⟩
    iterate 2 (refine hX _ ?_; conv => whnf)
    refine hX _ ?_; conv => whnf
    try simp (disch := omega) only [bg_w_id, Int.toNat_natCast, rw_land, sh_land, not_true_eq_false]
    refine s_mfigures (d + 0) n 7 a L (by omega) ha T h ht h18 _ (fun l' e' q h' f1 f2 f3 => ?_) (fun q => absurd (hn.symm.trans q) (by simp))
    rw [hn, Option.some.injEq, Prod.mk.injEq] at q
    obtain ⟨rfl, rfl⟩ := q
    conv => whnf
    refine hX _ ?_; conv => whnf
    refine ⟨fun q6 => ?_, fun q6 => ?_⟩
    · exfalso
      (try simp (disch := omega) only [bg_w_id, Int.toNat_natCast, rw_land, sh_land, not_true_eq_false, kc0, kc1, kc2, kc3, kc4, kc5, kc6, kc7, kc8, kc9, kc10, kc11, kc12, kc13, kc14, kc15, kc16, kc17, kc18, kc19, kc20, kc21, kc22, kc23, kc24, kc25, kc26, kc27, kc28, kc29, kc30, kc31, kc32, kc33] at q6) <;> (omega)
    · try simp (disch := omega) only [bg_w_id, Int.toNat_natCast, rw_land, sh_land, not_true_eq_false, kc0, kc1, kc2, kc3, kc4, kc5, kc6, kc7, kc8, kc9, kc10, kc11, kc12, kc13, kc14, kc15, kc16, kc17, kc18, kc19, kc20, kc21, kc22, kc23, kc24, kc25, kc26, kc27, kc28, kc29, kc30, kc31, kc32, kc33] at q6
      exact go h' f1 f2 f3
