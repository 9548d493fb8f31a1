def tbM (h : bg_G) (ws : List (List Nat)) : Prop := h 115 15 = ws.length ∧ ws.length ≤ 400 ∧ ∀ (w : Nat) (l : List Nat), ws[w]? = some l → l.length ≤ 7 ∧ h 127 w = l.length ∧ ∀ (i p : Nat), l[i]? = some p → h 128 (7 * w + i) = p
theorem tbM_fr {h h' : bg_G} {ws : List (List Nat)} (h1 : h' 115 15 = h 115 15) (h2 : h' 127 = h 127) (h3 : h' 128 = h 128) (ht : tbM h ws) : tbM h' ws := by
  unfold tbM
  rw [h1, h2, h3]
  exact ht
/-- the places that a row of paths has seen -/
def sv (B : Nat → Int) : List Nat → Int → Int
  | [], a => a
  | p :: l, a => sv B l (bg_or a (bg_shl 1 (B p)))
theorem sv_snoc (B : Nat → Int) : ∀ (l : List Nat) (p : Nat) (a : Int), sv B (l ++ [p]) a = bg_or (sv B l a) (bg_shl 1 (B p))
  | [], p, a => rfl
  | x :: l, p, a => sv_snoc B l p _
theorem sv_take (B : Nat → Int) (l : List Nat) (i : Nat) (hi : i < l.length) (a : Int) : sv B (l.take (i + 1)) a = bg_or (sv B (l.take i) a) (bg_shl 1 (B l[i])) := by
  rw [List.take_succ_eq_append_getElem hi, sv_snoc]
theorem s_mseenBy (d n : Nat) (tr : List Nat) (h : bg_G) (hl : tr.length ≤ 7) (htr : ∀ (i p : Nat), tr[i]? = some p → p < 12 ∧ h 133 i = p) (Rt : bg_R) (hR : Rt (some (.inl (sv (fun p => h 118 (7 * p + 1)) tr 1))) (bg_SH n, h)) : bg_Ca bg_MS (d + 1) 153 [vR 115, vI tr.length] (bg_SH n, h) Rt := by
  refine bg_ca (cd := cd_X9_seenBy) rfl rfl ?_
  intro X hX
  have l1 : ∀ i, i ≤ tr.length → X (4, [oR 115, oI (tr.length : Int), oI (sv (fun p => h 118 (7 * p + 1)) (tr.take i) 1), oI (i : Int)], [], (bg_SH n, h), (0, 0)) := by
    refine lp_up tr.length _ ?_ (fun i hi ih => ?_)
    · iterate 2 (refine hX _ ?_; conv => whnf)
      refine hX _ ?_; conv => whnf
      refine ⟨fun q6 => ?_, fun q6 => ?_⟩
      · try simp (disch := omega) only [bg_w_id, Int.toNat_natCast, rw_land, sh_land, not_true_eq_false, kc0, kc1, kc2, kc3, kc4, kc5, kc6, kc7, kc8, kc9, kc10, kc11, kc12, kc13, kc14, kc15, kc16, kc17, kc18, kc19, kc20, kc21, kc22, kc23, kc24, kc25, kc26, kc27, kc28, kc29, kc30, kc31, kc32, kc33] at q6
        refine hX _ ?_; conv => whnf
        refine hX _ ?_; conv => whnf
        rw [List.take_of_length_le (Nat.le_refl _)]
        exact hR
      · exfalso
        (try simp (disch := omega) only [bg_w_id, Int.toNat_natCast, rw_land, sh_land, not_true_eq_false, kc0, kc1, kc2, kc3, kc4, kc5, kc6, kc7, kc8, kc9, kc10, kc11, kc12, kc13, kc14, kc15, kc16, kc17, kc18, kc19, kc20, kc21, kc22, kc23, kc24, kc25, kc26, kc27, kc28, kc29, kc30, kc31, kc32, kc33] at q6) <;> (omega)
    · obtain ⟨e1, e2⟩ := htr i _ (List.getElem?_eq_getElem hi)
      rw [sv_take _ _ _ hi] at ih
      iterate 2 (refine hX _ ?_; conv => whnf)
      refine hX _ ?_; conv => whnf
      refine ⟨fun q6 => ?_, fun q6 => ?_⟩
      · exfalso
        (try simp (disch := omega) only [bg_w_id, Int.toNat_natCast, rw_land, sh_land, not_true_eq_false, e2, kc0, kc1, kc2, kc3, kc4, kc5, kc6, kc7, kc8, kc9, kc10, kc11, kc12, kc13, kc14, kc15, kc16, kc17, kc18, kc19, kc20, kc21, kc22, kc23, kc24, kc25, kc26, kc27, kc28, kc29, kc30, kc31, kc32, kc33] at q6) <;> (omega)
      · try simp (disch := omega) only [bg_w_id, Int.toNat_natCast, rw_land, sh_land, not_true_eq_false, e2, kc0, kc1, kc2, kc3, kc4, kc5, kc6, kc7, kc8, kc9, kc10, kc11, kc12, kc13, kc14, kc15, kc16, kc17, kc18, kc19, kc20, kc21, kc22, kc23, kc24, kc25, kc26, kc27, kc28, kc29, kc30, kc31, kc32, kc33] at q6
        iterate 8 (refine hX _ ?_; conv => whnf)
        refine hX _ ?_; conv => whnf
        try (simp (disch := omega) only [bg_w_id, Int.toNat_natCast, rw_land, sh_land, not_true_eq_false, e2]; try conv => whnf)
        refine ⟨by first | omega | (simp (disch := omega) only [bg_w_id, Int.toNat_natCast, rw_land, sh_land, not_true_eq_false, e2]; omega), ?_⟩
        iterate 3 (refine hX _ ?_; conv => whnf)
        refine hX _ ?_; conv => whnf
        try (simp (disch := omega) only [bg_w_id, Int.toNat_natCast, rw_land, sh_land, not_true_eq_false, e2]; try conv => whnf)
        refine ⟨by first | omega | (simp (disch := omega) only [bg_w_id, Int.toNat_natCast, rw_land, sh_land, not_true_eq_false, e2]; omega), ?_⟩
        iterate 5 (refine hX _ ?_; conv => whnf)
        exact ih
  iterate 4 (refine hX _ ?_; conv => whnf)
  exact l1 0 (by omega)
theorem s_mnoteWay (d n : Nat) (tr : List Nat) (ws : List (List Nat)) (h : bg_G) (ht : tbM h ws) (hl : tr.length ≤ 7) (hf : ws.length < 400) (htr : ∀ (i p : Nat), tr[i]? = some p → h 133 i = p) (Rt : bg_R) (hR : ∀ h' : bg_G, (∀ k, k ≠ 115 → k ≠ 127 → k ≠ 128 → h' k = h k) → (∀ j, j ≠ 15 → h' 115 j = h 115 j) → tbM h' (ws ++ [tr]) → Rt none (bg_SH n, h')) : bg_Ca bg_MS (d + 1) 155 [vR 115, vI tr.length] (bg_SH n, h) Rt := by
  obtain ⟨t1, t2, t3⟩ := id ht
  refine bg_ca (cd := cd_X9_noteWay) rfl rfl ?_
  intro X hX
  have l1 : ∀ i, i ≤ tr.length → ∀ h' : bg_G, (∀ k, k ≠ 127 → k ≠ 128 → h' k = h k) → (∀ j : Int, j ≠ ws.length → h' 127 j = h 127 j) → h' 127 ws.length = tr.length → (∀ j : Int, j < 7 * ws.length → h' 128 j = h 128 j) → (∀ (j p : Nat), j < i → tr[j]? = some p → h' 128 (7 * ws.length + j) = p) → X (12, [oR 115, oI (tr.length : Int), oI (i : Int)], [], (bg_SH n, h'), (0, 0)) := by
    refine lp_up tr.length _ ?_ (fun i hi ih => ?_)
    · intro h' g1 g2 g3 g4 g5
      have e41 : h' 115 15 = ws.length := by rw [g1 115 (by omega) (by omega)]; exact t1
      iterate 2 (refine hX _ ?_; conv => whnf)
      refine hX _ ?_; conv => whnf
      refine ⟨fun q14 => ?_, fun q14 => ?_⟩
      · try simp (disch := omega) only [bg_w_id, Int.toNat_natCast, rw_land, sh_land, not_true_eq_false, kc0, kc1, kc2, kc3, kc4, kc5, kc6, kc7, kc8, kc9, kc10, kc11, kc12, kc13, kc14, kc15, kc16, kc17, kc18, kc19, kc20, kc21, kc22, kc23, kc24, kc25, kc26, kc27, kc28, kc29, kc30, kc31, kc32, kc33] at q14
        iterate 6 (refine hX _ ?_; conv => whnf)
        try simp only [kc0, kc1, kc2, kc3, kc4, kc5, kc6, kc7, kc8, kc9, kc10, kc11, kc12, kc13, kc14, kc15, kc16, kc17, kc18, kc19, kc20, kc21, kc22, kc23, kc24, kc25, kc26, kc27, kc28, kc29, kc30, kc31, kc32, kc33]
        refine hX _ ?_; conv => whnf
        refine hR _ ?_ ?_ ?_
        · intro k k1 k2 k3
          rw [bg_up_ne k1]
          exact g1 k k2 k3
        · intro j hj
          rw [bg_up_nj hj, g1 115 (by omega) (by omega)]
        · refine ⟨?_, by simp; omega, fun w l hw => ?_⟩
          · rw [bg_up_self, e41]
            simp
          · rcases Nat.lt_or_ge w ws.length with hlt | hge
            · rw [List.getElem?_append_left hlt] at hw
              obtain ⟨r1, r2, r3⟩ := t3 w l hw
              refine ⟨r1, ?_, fun i p hi => ?_⟩
              · rw [bg_up_ne (by omega), g2 _ (by omega)]
                exact r2
              · have : i < l.length := (List.getElem?_eq_some_iff.mp hi).1
                rw [bg_up_ne (by omega), g4 _ (by omega)]
                exact r3 i p hi
            · rw [List.getElem?_append_right hge] at hw
              have hw0 : w - ws.length < 1 := (List.getElem?_eq_some_iff.mp hw).1
              rw [show w - ws.length = 0 by omega] at hw
              cases hw
              have : w = ws.length := by omega
              subst this
              refine ⟨hl, ?_, fun i p hi => ?_⟩
              · rw [bg_up_ne (by omega)]
                exact g3
              · have : i < tr.length := (List.getElem?_eq_some_iff.mp hi).1
                rw [bg_up_ne (by omega)]
                exact g5 i p this hi
      · exfalso
        (try simp (disch := omega) only [bg_w_id, Int.toNat_natCast, rw_land, sh_land, not_true_eq_false, kc0, kc1, kc2, kc3, kc4, kc5, kc6, kc7, kc8, kc9, kc10, kc11, kc12, kc13, kc14, kc15, kc16, kc17, kc18, kc19, kc20, kc21, kc22, kc23, kc24, kc25, kc26, kc27, kc28, kc29, kc30, kc31, kc32, kc33] at q14) <;> (omega)
    · intro h' g1 g2 g3 g4 g5
      have e41 : h' 115 15 = ws.length := by rw [g1 115 (by omega) (by omega)]; exact t1
      have e44 := g1 133 (by omega) (by omega)
      have ei : h 133 i = (tr[i] : Nat) := htr i _ (List.getElem?_eq_getElem hi)
      iterate 2 (refine hX _ ?_; conv => whnf)
      refine hX _ ?_; conv => whnf
      refine ⟨fun q14 => ?_, fun q14 => ?_⟩
      · exfalso
        (try simp (disch := omega) only [bg_w_id, Int.toNat_natCast, rw_land, sh_land, not_true_eq_false, e41, e44, ei, kc0, kc1, kc2, kc3, kc4, kc5, kc6, kc7, kc8, kc9, kc10, kc11, kc12, kc13, kc14, kc15, kc16, kc17, kc18, kc19, kc20, kc21, kc22, kc23, kc24, kc25, kc26, kc27, kc28, kc29, kc30, kc31, kc32, kc33] at q14) <;> (omega)
      · try simp (disch := omega) only [bg_w_id, Int.toNat_natCast, rw_land, sh_land, not_true_eq_false, e41, e44, ei, kc0, kc1, kc2, kc3, kc4, kc5, kc6, kc7, kc8, kc9, kc10, kc11, kc12, kc13, kc14, kc15, kc16, kc17, kc18, kc19, kc20, kc21, kc22, kc23, kc24, kc25, kc26, kc27, kc28, kc29, kc30, kc31, kc32, kc33] at q14
        iterate 11 (refine hX _ ?_; conv => whnf)
        refine hX _ ?_; conv => whnf
        try (simp (disch := omega) only [bg_w_id, Int.toNat_natCast, rw_land, sh_land, not_true_eq_false, e41, e44, ei, kc0, kc1, kc2, kc3, kc4, kc5, kc6, kc7, kc8, kc9, kc10, kc11, kc12, kc13, kc14, kc15, kc16, kc17, kc18, kc19, kc20, kc21, kc22, kc23, kc24, kc25, kc26, kc27, kc28, kc29, kc30, kc31, kc32, kc33]; try conv => whnf)
        refine ⟨by first | omega | (simp (disch := omega) only [bg_w_id, Int.toNat_natCast, rw_land, sh_land, not_true_eq_false, e41, e44, ei, kc0, kc1, kc2, kc3, kc4, kc5, kc6, kc7, kc8, kc9, kc10, kc11, kc12, kc13, kc14, kc15, kc16, kc17, kc18, kc19, kc20, kc21, kc22, kc23, kc24, kc25, kc26, kc27, kc28, kc29, kc30, kc31, kc32, kc33]; omega), ?_⟩
        refine hX _ ?_; conv => whnf
        try (simp (disch := omega) only [bg_w_id, Int.toNat_natCast, rw_land, sh_land, not_true_eq_false, e41, e44, ei, kc0, kc1, kc2, kc3, kc4, kc5, kc6, kc7, kc8, kc9, kc10, kc11, kc12, kc13, kc14, kc15, kc16, kc17, kc18, kc19, kc20, kc21, kc22, kc23, kc24, kc25, kc26, kc27, kc28, kc29, kc30, kc31, kc32, kc33]; try conv => whnf)
        refine ⟨by first | omega | (simp (disch := omega) only [bg_w_id, Int.toNat_natCast, rw_land, sh_land, not_true_eq_false, e41, e44, ei, kc0, kc1, kc2, kc3, kc4, kc5, kc6, kc7, kc8, kc9, kc10, kc11, kc12, kc13, kc14, kc15, kc16, kc17, kc18, kc19, kc20, kc21, kc22, kc23, kc24, kc25, kc26, kc27, kc28, kc29, kc30, kc31, kc32, kc33]; omega), ?_⟩
        iterate 2 (refine hX _ ?_; conv => whnf)
        try simp only [kc0, kc1, kc2, kc3, kc4, kc5, kc6, kc7, kc8, kc9, kc10, kc11, kc12, kc13, kc14, kc15, kc16, kc17, kc18, kc19, kc20, kc21, kc22, kc23, kc24, kc25, kc26, kc27, kc28, kc29, kc30, kc31, kc32, kc33]
        refine ih _ ?_ ?_ ?_ ?_ ?_
        · intro k k1 k2
          rw [bg_up_ne k2]
          exact g1 k k1 k2
        · intro j hj
          rw [bg_up_ne (by omega)]
          exact g2 j hj
        · rw [bg_up_ne (by omega)]
          exact g3
        · intro j hj
          rw [bg_up_nj (by omega)]
          exact g4 j hj
        · intro j p hj hp
          by_cases e : j = i
          · subst e
            rw [bg_up_self]
            rw [List.getElem?_eq_getElem hi] at hp
            cases hp
            rfl
          · rw [bg_up_nj (by omega)]
            exact g5 j p (by omega) hp
  iterate 5 (refine hX _ ?_; conv => whnf)
  refine hX _ ?_; conv => whnf
  try (simp (disch := omega) only [bg_w_id, Int.toNat_natCast, rw_land, sh_land, not_true_eq_false, t1, kc0, kc1, kc2, kc3, kc4, kc5, kc6, kc7, kc8, kc9, kc10, kc11, kc12, kc13, kc14, kc15, kc16, kc17, kc18, kc19, kc20, kc21, kc22, kc23, kc24, kc25, kc26, kc27, kc28, kc29, kc30, kc31, kc32, kc33]; try conv => whnf)
  refine ⟨by first | omega | (simp (disch := omega) only [bg_w_id, Int.toNat_natCast, rw_land, sh_land, not_true_eq_false, t1, kc0, kc1, kc2, kc3, kc4, kc5, kc6, kc7, kc8, kc9, kc10, kc11, kc12, kc13, kc14, kc15, kc16, kc17, kc18, kc19, kc20, kc21, kc22, kc23, kc24, kc25, kc26, kc27, kc28, kc29, kc30, kc31, kc32, kc33]; omega), ?_⟩
  iterate 2 (refine hX _ ?_; conv => whnf)
  try simp only [kc0, kc1, kc2, kc3, kc4, kc5, kc6, kc7, kc8, kc9, kc10, kc11, kc12, kc13, kc14, kc15, kc16, kc17, kc18, kc19, kc20, kc21, kc22, kc23, kc24, kc25, kc26, kc27, kc28, kc29, kc30, kc31, kc32, kc33]
  refine l1 0 (by omega) _ ?_ ?_ ?_ ?_ ?_
  · intro k k1 k2
    rw [bg_up_ne k1]
  · intro j hj
    rw [bg_up_nj (by omega)]
  · first | rw [bg_up_self] | (rw [← t1, bg_up_self])
  · intro j hj
    rw [bg_up_ne (by omega)]
  · intro j p hj
    exact absurd hj (by omega)
/-- how many of the places 0 to 6 are in a set -/
def c7 (s : Int) : Int := sm 7 (fun i => bt s i)
set_option maxRecDepth 100000 in
theorem c7_or : ∀ s : Nat, s < 256 → ∀ b : Nat, b < 7 → bt s b = 0 → c7 (bg_or s (bg_shl 1 b)) = c7 s + 1 ∧ 0 ≤ bg_or s (bg_shl 1 b) ∧ bg_or s (bg_shl 1 b) < 256 := by decide +kernel
set_option maxRecDepth 100000 in
theorem c7_all : ∀ s : Nat, s < 256 → c7 s = 7 → ∀ b : Nat, b < 7 → bt s b = 1 := by decide +kernel
