/-! bestWay, leastPay, guard, carrier of the model -/
def bwM (h : bg_G) (held : Int) : Int := (bw (gnM h held) (wsM h).length).1
theorem bw_1 (g : Nat → Int) (hg : ∀ w, -9223372036854775808 < g w) : ∀ N, ((bw g N).1 = -4 ∧ N = 0 ∧ (bw g N).2 = -9223372036854775808) ∨ (0 ≤ (bw g N).1 ∧ (bw g N).1 < N ∧ (bw g N).2 = g (bw g N).1.toNat)
  | 0 => Or.inl ⟨rfl, rfl, rfl⟩
  | N + 1 => by
    have ih := bw_1 g hg N
    have hN := hg N
    unfold bw
    split
    · refine Or.inr ⟨?_, ?_, ?_⟩
      · show (0 : Int) ≤ N; omega
      · show (N : Int) < ((N + 1 : Nat) : Int); omega
      · show g N = g (N : Int).toNat; rw [Int.toNat_natCast]
    · rename_i c
      rcases ih with ⟨i1, i2, i3⟩ | ⟨i1, i2, i3⟩
      · omega
      · exact Or.inr ⟨i1, by omega, i3⟩
theorem bw_congr {g g' : Nat → Int} : ∀ N, (∀ w, w < N → g w = g' w) → bw g N = bw g' N
  | 0, _ => rfl
  | N + 1, h => by
    have ih := bw_congr N (fun w hw => h w (by omega))
    unfold bw
    rw [ih, h N (by omega)]
theorem bw_2 (g : Nat → Int) (N : Nat) (hg : ∀ w, w < N → -9223372036854775808 < g w) : ((bw g N).1 = -4 ∧ N = 0 ∧ (bw g N).2 = -9223372036854775808) ∨ (0 ≤ (bw g N).1 ∧ (bw g N).1 < N ∧ (bw g N).2 = g (bw g N).1.toNat) := by
  have e := bw_congr (g := g) (g' := fun w => if w < N then g w else 0) N (fun w hw => by rw [if_pos hw])
  have := bw_1 (fun w => if w < N then g w else 0) (fun w => by show _ < (if w < N then g w else 0); split; exact hg w (by assumption); omega) N
  rw [← e] at this
  rcases this with h | ⟨h1, h2, h3⟩
  · exact Or.inl h
  · refine Or.inr ⟨h1, h2, ?_⟩
    rw [h3]
    show (if (bw g N).1.toNat < N then _ else _) = _
    rw [if_pos (by omega)]
theorem bwM_rg {h : bg_G} (ho : okM h) {h' : bg_G} (hf : frW h h') (held : Int) : (bwM h held = -4 ∧ (wsM h).length = 0) ∨ (0 ≤ bwM h held ∧ bwM h held < (wsM h).length) := by
  have := bw_2 (gnM h held) (wsM h).length (fun w hw => by have := gnM_rg ho hf held hw; omega)
  rcases this with h | h
  · exact Or.inl ⟨h.1, h.2.1⟩
  · exact Or.inr ⟨h.1, h.2.1⟩
theorem s_mbw (d n : Nat) (held : Int) (h0 h : bg_G) (ho : okM h0) (hf : frW h0 h) (Rt : bg_R) (hR : Rt (some (.inl (bwM h0 held))) (bg_SH n, h)) : bg_Ca bg_MS (d + 3) 161 [vR 115, vI held] (bg_SH n, h) Rt := by
  refine s_mbestWayBy d n (wsM h0).length (lenW (wsM h0)) (ptW (wsM h0)) held h (frW_ok hf ho) (frW_tbl hf ho) Rt ?_
  rw [frW_g hf]
  exact hR
theorem s_mbestWay (d n : Nat) (s w : Int) (hs : i32 s) (hw : i32 w) (h : bg_G) (ho : okM h) (hl : wayL h) (Rt : bg_R) (hR1 : okS (h 117 0) (h 119 0) s → (0 ≤ w ∧ w ≤ 1) → ∀ h' : bg_G, frW h h' → Rt (some (.inl (if bwM h (heldM h s) = -4 ∨ w = 0 then bwM h (heldM h s) else if h 121 2 * 100000000000000 < gnM h (heldM h s) (bwM h (heldM h s)).toNat then 1 else 0))) (bg_SH n, h')) (hR0 : ¬ (okS (h 117 0) (h 119 0) s ∧ (0 ≤ w ∧ w ≤ 1)) → Rt (some (.inl (-1))) (bg_SH n, h)) : bg_Ca bg_MS (d + 4) 163 [vR 115, vI s, vI w] (bg_SH n, h) Rt := by
  have hn := ho.1
  refine bg_ca (cd := cd_X9_bestWay) rfl rfl ?_
  intro X hX
  by_cases c1 : okS (h 117 0) (h 119 0) s
  · by_cases c2 : 0 ≤ w ∧ w ≤ 1
    · have hR1 := hR1 c1 c2
      iterate 2 (refine hX _ ?_; conv => whnf)
      refine hX _ ?_; conv => whnf
      try simp (disch := omega) only [bg_w_id, Int.toNat_natCast, rw_land, sh_land, not_true_eq_false]
      refine s_ap_t (d + 2) _ _ _ _ hs c1 ?_
      conv => whnf
      refine hX _ ?_; conv => whnf
      refine ⟨fun q5 => ?_, fun q5 => ?_⟩
      · exfalso
        (try simp (disch := omega) only [bg_w_id, Int.toNat_natCast, rw_land, sh_land, not_true_eq_false, kc0, kc1, kc2, kc3, kc4, kc5, kc6, kc7, kc8, kc9, kc10, kc11, kc12, kc13, kc14, kc15, kc16, kc17, kc18, kc19, kc20, kc21, kc22, kc23, kc24, kc25, kc26, kc27, kc28, kc29, kc30, kc31, kc32, kc33] at q5) <;> (omega)
      · try simp (disch := omega) only [bg_w_id, Int.toNat_natCast, rw_land, sh_land, not_true_eq_false, kc0, kc1, kc2, kc3, kc4, kc5, kc6, kc7, kc8, kc9, kc10, kc11, kc12, kc13, kc14, kc15, kc16, kc17, kc18, kc19, kc20, kc21, kc22, kc23, kc24, kc25, kc26, kc27, kc28, kc29, kc30, kc31, kc32, kc33] at q5
        iterate 4 (refine hX _ ?_; conv => whnf)
        try simp (disch := omega) only [bg_w_id, Int.toNat_natCast, rw_land, sh_land, not_true_eq_false]
        refine hX _ ?_; conv => whnf
        try simp (disch := omega) only [bg_w_id, Int.toNat_natCast, rw_land, sh_land, not_true_eq_false]
        refine s_in_t (d + 2) _ _ _ _ _ (by omega) (by omega) (by omega) c2 ?_
        conv => whnf
        refine hX _ ?_; conv => whnf
        refine ⟨fun q15 => ?_, fun q15 => ?_⟩
        · try simp (disch := omega) only [bg_w_id, Int.toNat_natCast, rw_land, sh_land, not_true_eq_false, kc0, kc1, kc2, kc3, kc4, kc5, kc6, kc7, kc8, kc9, kc10, kc11, kc12, kc13, kc14, kc15, kc16, kc17, kc18, kc19, kc20, kc21, kc22, kc23, kc24, kc25, kc26, kc27, kc28, kc29, kc30, kc31, kc32, kc33] at q15
          refine hX _ ?_; conv => whnf
          refine hX _ ?_; conv => whnf
          try simp (disch := omega) only [bg_w_id, Int.toNat_natCast, rw_land, sh_land, not_true_eq_false]
          refine s_mLW (d + 1) n h ho hl _ (fun h' hf => ?_)
          obtain ⟨t1, t2, t3⟩ := frW_tbl hf ho
          have hR1 := hR1 h' hf
          have e120 := hf.1 121 (by omega) (by omega) (by omega) (by omega)
          have rb := bwM_rg ho hf (heldM h s)
          conv => whnf
          iterate 3 (refine hX _ ?_; conv => whnf)
          refine hX _ ?_; conv => whnf
          try simp (disch := omega) only [bg_w_id, Int.toNat_natCast, rw_land, sh_land, not_true_eq_false]
          refine s_mheldBy (d + 1) _ _ _ _ ?_
          rw [frW_held hf]
          conv => whnf
          refine hX _ ?_; conv => whnf
          try simp (disch := omega) only [bg_w_id, Int.toNat_natCast, rw_land, sh_land, not_true_eq_false]
          refine s_mbw d n _ h h' ho hf _ ?_
          conv => whnf
          iterate 3 (refine hX _ ?_; conv => whnf)
          refine hX _ ?_; conv => whnf
          refine ⟨fun q37 => ?_, fun q37 => ?_⟩
          · try simp (disch := omega) only [bg_w_id, Int.toNat_natCast, rw_land, sh_land, not_true_eq_false, kc0, kc1, kc2, kc3, kc4, kc5, kc6, kc7, kc8, kc9, kc10, kc11, kc12, kc13, kc14, kc15, kc16, kc17, kc18, kc19, kc20, kc21, kc22, kc23, kc24, kc25, kc26, kc27, kc28, kc29, kc30, kc31, kc32, kc33] at q37
            refine hX _ ?_; conv => whnf
            refine hX _ ?_; conv => whnf
            first
            | (rw [if_neg q61] at hR1; exact hR1)
            | (rw [if_pos q61] at hR1; exact hR1)
            | (rw [if_pos (by omega)] at hR1; exact hR1)
          · try simp (disch := omega) only [bg_w_id, Int.toNat_natCast, rw_land, sh_land, not_true_eq_false, kc0, kc1, kc2, kc3, kc4, kc5, kc6, kc7, kc8, kc9, kc10, kc11, kc12, kc13, kc14, kc15, kc16, kc17, kc18, kc19, kc20, kc21, kc22, kc23, kc24, kc25, kc26, kc27, kc28, kc29, kc30, kc31, kc32, kc33] at q37
            refine hX _ ?_; conv => whnf
            refine hX _ ?_; conv => whnf
            refine ⟨fun q41 => ?_, fun q41 => ?_⟩
            · try simp (disch := omega) only [bg_w_id, Int.toNat_natCast, rw_land, sh_land, not_true_eq_false, kc0, kc1, kc2, kc3, kc4, kc5, kc6, kc7, kc8, kc9, kc10, kc11, kc12, kc13, kc14, kc15, kc16, kc17, kc18, kc19, kc20, kc21, kc22, kc23, kc24, kc25, kc26, kc27, kc28, kc29, kc30, kc31, kc32, kc33] at q41
              rw [if_neg (by omega)] at hR1
              have rb : 0 ≤ bwM h (heldM h s) ∧ bwM h (heldM h s) < (wsM h).length := by omega
              obtain ⟨v, ev⟩ : ∃ v : Nat, bwM h (heldM h s) = v := ⟨(bwM h (heldM h s)).toNat, by omega⟩
              rw [ev, Int.toNat_natCast] at hR1
              have rg := gnM_rg ho hf (heldM h s) (w := v) (by omega)
              iterate 3 (refine hX _ ?_; conv => whnf)
              refine hX _ ?_; conv => whnf
              try simp (disch := omega) only [bg_w_id, Int.toNat_natCast, rw_land, sh_land, not_true_eq_false]
              refine s_mheldBy (d + 1) _ _ _ _ ?_
              rw [frW_held hf]
              conv => whnf
              refine hX _ ?_; conv => whnf
              refine hX _ ?_; conv => whnf
              try simp (disch := omega) only [bg_w_id, Int.toNat_natCast, rw_land, sh_land, not_true_eq_false]
              rw [ev]
              refine s_mgn (d + 1) n _ v h h' ho hf (by omega) _ ?_
              conv => whnf
              refine hX _ ?_; conv => whnf
              refine hX _ ?_; conv => whnf
              try simp (disch := omega) only [bg_w_id, Int.toNat_natCast, rw_land, sh_land, not_true_eq_false]
              refine s_melse (d + 2) n h' _ ?_ (by rw [e120]; omega)
              rw [e120]
              conv => whnf
              refine hX _ ?_; conv => whnf
              refine hX _ ?_; conv => whnf
              refine ⟨fun q61 => ?_, fun q61 => ?_⟩
              · try simp (disch := omega) only [bg_w_id, Int.toNat_natCast, rw_land, sh_land, not_true_eq_false, kc0, kc1, kc2, kc3, kc4, kc5, kc6, kc7, kc8, kc9, kc10, kc11, kc12, kc13, kc14, kc15, kc16, kc17, kc18, kc19, kc20, kc21, kc22, kc23, kc24, kc25, kc26, kc27, kc28, kc29, kc30, kc31, kc32, kc33] at q61
                rw [bg_Cmp_gt, bg_W_id (by omega) (by omega), bg_W_id (by omega) (by omega)] at q61
                refine hX _ ?_; conv => whnf
                refine hX _ ?_; conv => whnf
                first
                | (rw [if_neg q61] at hR1; exact hR1)
                | (rw [if_pos q61] at hR1; exact hR1)
                | (rw [if_pos (by omega)] at hR1; exact hR1)
              · try simp (disch := omega) only [bg_w_id, Int.toNat_natCast, rw_land, sh_land, not_true_eq_false, kc0, kc1, kc2, kc3, kc4, kc5, kc6, kc7, kc8, kc9, kc10, kc11, kc12, kc13, kc14, kc15, kc16, kc17, kc18, kc19, kc20, kc21, kc22, kc23, kc24, kc25, kc26, kc27, kc28, kc29, kc30, kc31, kc32, kc33] at q61
                rw [bg_Cmp_gt, bg_W_id (by omega) (by omega), bg_W_id (by omega) (by omega)] at q61
                iterate 2 (refine hX _ ?_; conv => whnf)
                refine hX _ ?_; conv => whnf
                first
                | (rw [if_neg q61] at hR1; exact hR1)
                | (rw [if_pos q61] at hR1; exact hR1)
                | (rw [if_pos (by omega)] at hR1; exact hR1)
            · try simp (disch := omega) only [bg_w_id, Int.toNat_natCast, rw_land, sh_land, not_true_eq_false, kc0, kc1, kc2, kc3, kc4, kc5, kc6, kc7, kc8, kc9, kc10, kc11, kc12, kc13, kc14, kc15, kc16, kc17, kc18, kc19, kc20, kc21, kc22, kc23, kc24, kc25, kc26, kc27, kc28, kc29, kc30, kc31, kc32, kc33] at q41
              refine hX _ ?_; conv => whnf
              refine hX _ ?_; conv => whnf
              first
              | (rw [if_neg q61] at hR1; exact hR1)
              | (rw [if_pos q61] at hR1; exact hR1)
              | (rw [if_pos (by omega)] at hR1; exact hR1)
        · exfalso
          (try simp (disch := omega) only [bg_w_id, Int.toNat_natCast, rw_land, sh_land, not_true_eq_false, kc0, kc1, kc2, kc3, kc4, kc5, kc6, kc7, kc8, kc9, kc10, kc11, kc12, kc13, kc14, kc15, kc16, kc17, kc18, kc19, kc20, kc21, kc22, kc23, kc24, kc25, kc26, kc27, kc28, kc29, kc30, kc31, kc32, kc33] at q15) <;> (omega)
    · iterate 2 (refine hX _ ?_; conv => whnf)
      refine hX _ ?_; conv => whnf
      try simp (disch := omega) only [bg_w_id, Int.toNat_natCast, rw_land, sh_land, not_true_eq_false]
      refine s_ap_t (d + 2) _ _ _ _ hs c1 ?_
      conv => whnf
      refine hX _ ?_; conv => whnf
      refine ⟨fun q5 => ?_, fun q5 => ?_⟩
      · exfalso
        (try simp (disch := omega) only [bg_w_id, Int.toNat_natCast, rw_land, sh_land, not_true_eq_false, kc0, kc1, kc2, kc3, kc4, kc5, kc6, kc7, kc8, kc9, kc10, kc11, kc12, kc13, kc14, kc15, kc16, kc17, kc18, kc19, kc20, kc21, kc22, kc23, kc24, kc25, kc26, kc27, kc28, kc29, kc30, kc31, kc32, kc33] at q5) <;> (omega)
      · try simp (disch := omega) only [bg_w_id, Int.toNat_natCast, rw_land, sh_land, not_true_eq_false, kc0, kc1, kc2, kc3, kc4, kc5, kc6, kc7, kc8, kc9, kc10, kc11, kc12, kc13, kc14, kc15, kc16, kc17, kc18, kc19, kc20, kc21, kc22, kc23, kc24, kc25, kc26, kc27, kc28, kc29, kc30, kc31, kc32, kc33] at q5
        iterate 4 (refine hX _ ?_; conv => whnf)
        try simp (disch := omega) only [bg_w_id, Int.toNat_natCast, rw_land, sh_land, not_true_eq_false]
        refine hX _ ?_; conv => whnf
        try simp (disch := omega) only [bg_w_id, Int.toNat_natCast, rw_land, sh_land, not_true_eq_false]
        refine s_in_f (d + 2) _ _ _ _ _ (by omega) (by omega) (by omega) c2 ?_
        conv => whnf
        refine hX _ ?_; conv => whnf
        refine ⟨fun q15 => ?_, fun q15 => ?_⟩
        · exfalso
          (try simp (disch := omega) only [bg_w_id, Int.toNat_natCast, rw_land, sh_land, not_true_eq_false, kc0, kc1, kc2, kc3, kc4, kc5, kc6, kc7, kc8, kc9, kc10, kc11, kc12, kc13, kc14, kc15, kc16, kc17, kc18, kc19, kc20, kc21, kc22, kc23, kc24, kc25, kc26, kc27, kc28, kc29, kc30, kc31, kc32, kc33] at q15) <;> (omega)
        · try simp (disch := omega) only [bg_w_id, Int.toNat_natCast, rw_land, sh_land, not_true_eq_false, kc0, kc1, kc2, kc3, kc4, kc5, kc6, kc7, kc8, kc9, kc10, kc11, kc12, kc13, kc14, kc15, kc16, kc17, kc18, kc19, kc20, kc21, kc22, kc23, kc24, kc25, kc26, kc27, kc28, kc29, kc30, kc31, kc32, kc33] at q15
          refine hX _ ?_; conv => whnf
          refine hX _ ?_; conv => whnf
          exact hR0 (fun e => c2 e.2)
  · iterate 2 (refine hX _ ?_; conv => whnf)
    refine hX _ ?_; conv => whnf
    try simp (disch := omega) only [bg_w_id, Int.toNat_natCast, rw_land, sh_land, not_true_eq_false]
    refine s_ap_f (d + 2) _ _ _ _ hs c1 ?_
    conv => whnf
    refine hX _ ?_; conv => whnf
    refine ⟨fun q5 => ?_, fun q5 => ?_⟩
    · try simp (disch := omega) only [bg_w_id, Int.toNat_natCast, rw_land, sh_land, not_true_eq_false, kc0, kc1, kc2, kc3, kc4, kc5, kc6, kc7, kc8, kc9, kc10, kc11, kc12, kc13, kc14, kc15, kc16, kc17, kc18, kc19, kc20, kc21, kc22, kc23, kc24, kc25, kc26, kc27, kc28, kc29, kc30, kc31, kc32, kc33] at q5
      refine hX _ ?_; conv => whnf
      refine hX _ ?_; conv => whnf
      exact hR0 (fun e => c1 e.1)
    · exfalso
      (try simp (disch := omega) only [bg_w_id, Int.toNat_natCast, rw_land, sh_land, not_true_eq_false, kc0, kc1, kc2, kc3, kc4, kc5, kc6, kc7, kc8, kc9, kc10, kc11, kc12, kc13, kc14, kc15, kc16, kc17, kc18, kc19, kc20, kc21, kc22, kc23, kc24, kc25, kc26, kc27, kc28, kc29, kc30, kc31, kc32, kc33] at q5) <;> (omega)
/-- what held paths let be paid -/
def payM (h : bg_G) (held : Int) : Int := if bwM h held = -4 then h 121 2 * 100000000000000 else gnM h held (bwM h held).toNat
def lpM (h : bg_G) (n : Nat) : Nat := bsF (fun s => okS (h 117 0) (h 119 0) (s : Int) ∧ costM h s ≤ h 121 0) (fun s => payM h (heldM h s)) n
theorem lpM_ok {h : bg_G} (ho : okM h) : ∀ n, okS (h 117 0) (h 119 0) (lpM h n : Nat) ∧ lpM h n ≤ n
  | 0 => ⟨okS_0 ho.1.1 ho.1.2.1, Nat.le_refl _⟩
  | n + 1 => by
    have ih := lpM_ok ho n
    unfold lpM bsF
    split
    · rename_i c; exact ⟨c.1.2.1, by omega⟩
    · exact ⟨ih.1, by have := ih.2; unfold lpM at this; omega⟩
theorem payM_rg {h : bg_G} (ho : okM h) {h' : bg_G} (hf : frW h h') (held : Int) : -100000000000000000 ≤ payM h held ∧ payM h held ≤ 100000000000000000 := by
  have hn := ho.1
  unfold payM
  split
  · omega
  · have rb := bwM_rg ho hf held
    exact gnM_rg ho hf held (by omega)
theorem gnM_fr {h h' : bg_G} {s : Int} (e1 : h' 117 = h 117) (e2 : h' 118 = h 118) (e3 : h' 121 = h 121) : gnM h' s = gnM h s := by
  funext w
  unfold gnM gM wsM
  rw [e1, e2, e3]
theorem s_mleastPay (d n : Nat) (h : bg_G) (hg : wfM h) (hl : wayL h) (Rt : bg_R) (hR : ∀ (h1 h' : bg_G), frW h h1 → (∀ k, k ≠ 134 → h' k = h1 k) → Rt (some (.inl (lpM h (setsM h) : Nat))) (bg_SH n, h')) : bg_Ca bg_MS (d + 4) 164 [vR 115] (bg_SH n, h) Rt := by
  have ho := hg.1
  have hn := ho.1
  obtain ⟨N, hN⟩ : ∃ N : Nat, (N : Int) = h 117 0 := ⟨(h 117 0).toNat, by omega⟩
  have hN2 : (h 117 0).toNat = N := by omega
  obtain ⟨M, hM⟩ : ∃ M : Nat, M = 2 ^ N := ⟨_, rfl⟩
  have hM2 : M ≤ 4096 := by rw [hM]; exact (show 2 ^ N ≤ 2 ^ 12 from Nat.pow_le_pow_right (by decide) (by omega))
  have eM : bg_shl 1 (N : Int) = (M : Int) := by rw [bn_bit (by omega), hM]
  obtain ⟨Q, hQ⟩ : ∃ Q : Nat, Q = setsM h := ⟨_, rfl⟩
  have hQ2 := setsM_le hg
  rw [← hQ] at hR hQ2
  refine bg_ca (cd := cd_X9_leastPay) rfl rfl ?_
  intro X hX
  have l2 : ∀ (h1 : bg_G), frW h h1 → ∀ q, q ≤ Q → 1 ≤ q → ∀ h' : bg_G, (∀ k, k ≠ 134 → h' k = h1 k) → (∀ m : Nat, m < M → h' 134 m = payM h m) → X (61, [oR 115, oI (M : Int), oI (lpM h q : Nat), oI (q : Int)], [], (bg_SH n, h'), (0, 0)) := by
    intro h1 hf
    refine lp_up Q _ ?_ (fun q hq ih => ?_)
    · intro _ h' f1 f2
      have e118 : h' 119 = h 119 := by rw [f1 119 (by omega), hf.1 119 (by omega) (by omega) (by omega) (by omega)]
      iterate 2 (refine hX _ ?_; conv => whnf)
      refine hX _ ?_; conv => whnf
      try simp (disch := omega) only [bg_w_id, Int.toNat_natCast, rw_land, sh_land, not_true_eq_false]
      refine s_msetMany (d + 2) n h' (by rw [e118]; omega) _ ?_
      rw [e118, show 2 ^ (12 + (h 119 0).toNat) = Q from hQ.symm]
      conv => whnf
      refine hX _ ?_; conv => whnf
      refine ⟨fun q66 => ?_, fun q66 => ?_⟩
      · try simp (disch := omega) only [bg_w_id, Int.toNat_natCast, rw_land, sh_land, not_true_eq_false, kc0, kc1, kc2, kc3, kc4, kc5, kc6, kc7, kc8, kc9, kc10, kc11, kc12, kc13, kc14, kc15, kc16, kc17, kc18, kc19, kc20, kc21, kc22, kc23, kc24, kc25, kc26, kc27, kc28, kc29, kc30, kc31, kc32, kc33] at q66
        refine hX _ ?_; conv => whnf
        refine hX _ ?_; conv => whnf
        exact hR h1 h' hf f1
      · exfalso
        (try simp (disch := omega) only [bg_w_id, Int.toNat_natCast, rw_land, sh_land, not_true_eq_false, kc0, kc1, kc2, kc3, kc4, kc5, kc6, kc7, kc8, kc9, kc10, kc11, kc12, kc13, kc14, kc15, kc16, kc17, kc18, kc19, kc20, kc21, kc22, kc23, kc24, kc25, kc26, kc27, kc28, kc29, kc30, kc31, kc32, kc33] at q66) <;> (omega)
    · intro h0 h' f1 f2
      have e116 : h' 117 = h 117 := by rw [f1 117 (by omega), hf.1 117 (by omega) (by omega) (by omega) (by omega)]
      have e117 : h' 118 = h 118 := by rw [f1 118 (by omega), hf.1 118 (by omega) (by omega) (by omega) (by omega)]
      have e118 : h' 119 = h 119 := by rw [f1 119 (by omega), hf.1 119 (by omega) (by omega) (by omega) (by omega)]
      have e119 : h' 120 = h 120 := by rw [f1 120 (by omega), hf.1 120 (by omega) (by omega) (by omega) (by omega)]
      have e120 : h' 121 = h 121 := by rw [f1 121 (by omega), hf.1 121 (by omega) (by omega) (by omega) (by omega)]
      have ih := ih (by omega)
      have es : lpM h (q + 1) = if (0 < q ∧ okS (h 117 0) (h 119 0) (q : Int) ∧ costM h q ≤ h 121 0) ∧ payM h (heldM h q) < payM h (heldM h (lpM h q : Nat)) then q else lpM h q := rfl
      rw [es] at ih
      have hb := lpM_ok ho q
      have rc := costM_rg ho (q : Int)
      have rm1 := payM_rg ho hf (heldM h (q : Int))
      have rm2 := payM_rg ho hf (heldM h (lpM h q : Nat))
      by_cases c4 : okS (h 117 0) (h 119 0) (q : Int)
      · obtain ⟨m1, hm1, em1⟩ := heldM_rg ho hg.2.1 (by omega) c4
        obtain ⟨m2, hm2, em2⟩ := heldM_rg ho hg.2.1 (by omega) hb.1
        rw [hN2, ← hM] at hm1 hm2
        have v1 := f2 m1 hm1
        have v2 := f2 m2 hm2
        rw [em1] at rm1 ih
        rw [em2] at rm2 ih
        iterate 2 (refine hX _ ?_; conv => whnf)
        refine hX _ ?_; conv => whnf
        try simp (disch := omega) only [bg_w_id, Int.toNat_natCast, rw_land, sh_land, not_true_eq_false, e120]
        refine s_msetMany (d + 2) n h' (by rw [e118]; omega) _ ?_
        rw [e118, show 2 ^ (12 + (h 119 0).toNat) = Q from hQ.symm]
        conv => whnf
        refine hX _ ?_; conv => whnf
        refine ⟨fun q66 => ?_, fun q66 => ?_⟩
        · exfalso
          (try simp (disch := omega) only [bg_w_id, Int.toNat_natCast, rw_land, sh_land, not_true_eq_false, e120, kc0, kc1, kc2, kc3, kc4, kc5, kc6, kc7, kc8, kc9, kc10, kc11, kc12, kc13, kc14, kc15, kc16, kc17, kc18, kc19, kc20, kc21, kc22, kc23, kc24, kc25, kc26, kc27, kc28, kc29, kc30, kc31, kc32, kc33] at q66) <;> (omega)
        · try simp (disch := omega) only [bg_w_id, Int.toNat_natCast, rw_land, sh_land, not_true_eq_false, e120, kc0, kc1, kc2, kc3, kc4, kc5, kc6, kc7, kc8, kc9, kc10, kc11, kc12, kc13, kc14, kc15, kc16, kc17, kc18, kc19, kc20, kc21, kc22, kc23, kc24, kc25, kc26, kc27, kc28, kc29, kc30, kc31, kc32, kc33] at q66
          iterate 2 (refine hX _ ?_; conv => whnf)
          refine hX _ ?_; conv => whnf
          try simp (disch := omega) only [bg_w_id, Int.toNat_natCast, rw_land, sh_land, not_true_eq_false, e120]
          refine s_ap_t (d + 2) _ _ _ _ (by omega) (by rw [e116, e118]; exact c4) ?_
          conv => whnf
          refine hX _ ?_; conv => whnf
          refine ⟨fun q74 => ?_, fun q74 => ?_⟩
          · exfalso
            (try simp (disch := omega) only [bg_w_id, Int.toNat_natCast, rw_land, sh_land, not_true_eq_false, e120, kc0, kc1, kc2, kc3, kc4, kc5, kc6, kc7, kc8, kc9, kc10, kc11, kc12, kc13, kc14, kc15, kc16, kc17, kc18, kc19, kc20, kc21, kc22, kc23, kc24, kc25, kc26, kc27, kc28, kc29, kc30, kc31, kc32, kc33] at q74) <;> (omega)
          · try simp (disch := omega) only [bg_w_id, Int.toNat_natCast, rw_land, sh_land, not_true_eq_false, e120, kc0, kc1, kc2, kc3, kc4, kc5, kc6, kc7, kc8, kc9, kc10, kc11, kc12, kc13, kc14, kc15, kc16, kc17, kc18, kc19, kc20, kc21, kc22, kc23, kc24, kc25, kc26, kc27, kc28, kc29, kc30, kc31, kc32, kc33] at q74
            iterate 2 (refine hX _ ?_; conv => whnf)
            refine hX _ ?_; conv => whnf
            try simp (disch := omega) only [bg_w_id, Int.toNat_natCast, rw_land, sh_land, not_true_eq_false, e120]
            refine s_mcostOf (d + 1) _ _ _ _ ?_
            rw [e117, e119, show sm 12 (fun i => bt (q : Int) i * h 118 (7 * i + 4)) + sm 3 (fun t => bt (q : Int) (12 + t) * h 120 (3 * t + 2)) = costM h q from rfl]
            conv => whnf
            iterate 3 (refine hX _ ?_; conv => whnf)
            refine hX _ ?_; conv => whnf
            try (simp (disch := omega) only [bg_w_id, Int.toNat_natCast, rw_land, sh_land, not_true_eq_false, e120]; try conv => whnf)
            refine ⟨by first | omega | (simp (disch := omega) only [bg_w_id, Int.toNat_natCast, rw_land, sh_land, not_true_eq_false, e120]; omega), ?_⟩
            refine hX _ ?_; conv => whnf
            refine ⟨fun q88 => ?_, fun q88 => ?_⟩
            · try simp (disch := omega) only [bg_w_id, Int.toNat_natCast, rw_land, sh_land, not_true_eq_false, e120, kc0, kc1, kc2, kc3, kc4, kc5, kc6, kc7, kc8, kc9, kc10, kc11, kc12, kc13, kc14, kc15, kc16, kc17, kc18, kc19, kc20, kc21, kc22, kc23, kc24, kc25, kc26, kc27, kc28, kc29, kc30, kc31, kc32, kc33] at q88
              iterate 2 (refine hX _ ?_; conv => whnf)
              first
              | (rw [if_neg (by omega)] at ih; exact ih _ f1 f2)
              | (rw [if_pos ⟨⟨by omega, c4, by omega⟩, by omega⟩] at ih; exact ih _ f1 f2)
            · try simp (disch := omega) only [bg_w_id, Int.toNat_natCast, rw_land, sh_land, not_true_eq_false, e120, kc0, kc1, kc2, kc3, kc4, kc5, kc6, kc7, kc8, kc9, kc10, kc11, kc12, kc13, kc14, kc15, kc16, kc17, kc18, kc19, kc20, kc21, kc22, kc23, kc24, kc25, kc26, kc27, kc28, kc29, kc30, kc31, kc32, kc33] at q88
              iterate 4 (refine hX _ ?_; conv => whnf)
              refine hX _ ?_; conv => whnf
              try simp (disch := omega) only [bg_w_id, Int.toNat_natCast, rw_land, sh_land, not_true_eq_false, e120]
              refine s_mheldBy (d + 1) _ _ _ _ ?_
              rw [heldM_fr e119, em1]
              conv => whnf
              refine hX _ ?_; conv => whnf
              try (simp (disch := omega) only [bg_w_id, Int.toNat_natCast, rw_land, sh_land, not_true_eq_false, e120]; try conv => whnf)
              refine ⟨by first | omega | (simp (disch := omega) only [bg_w_id, Int.toNat_natCast, rw_land, sh_land, not_true_eq_false, e120]; omega), ?_⟩
              iterate 4 (refine hX _ ?_; conv => whnf)
              refine hX _ ?_; conv => whnf
              try simp (disch := omega) only [bg_w_id, Int.toNat_natCast, rw_land, sh_land, not_true_eq_false, e120]
              rw [v1]
              refine s_mheldBy (d + 1) _ _ _ _ ?_
              rw [heldM_fr e119, em2]
              conv => whnf
              refine hX _ ?_; conv => whnf
              try (simp (disch := omega) only [bg_w_id, Int.toNat_natCast, rw_land, sh_land, not_true_eq_false, e120]; try conv => whnf)
              refine ⟨by first | omega | (simp (disch := omega) only [bg_w_id, Int.toNat_natCast, rw_land, sh_land, not_true_eq_false, e120]; omega), ?_⟩
              refine hX _ ?_; conv => whnf
              refine hX _ ?_; conv => whnf
              refine ⟨fun q112 => ?_, fun q112 => ?_⟩
              · try simp (disch := omega) only [bg_w_id, Int.toNat_natCast, rw_land, sh_land, not_true_eq_false, e120, kc0, kc1, kc2, kc3, kc4, kc5, kc6, kc7, kc8, kc9, kc10, kc11, kc12, kc13, kc14, kc15, kc16, kc17, kc18, kc19, kc20, kc21, kc22, kc23, kc24, kc25, kc26, kc27, kc28, kc29, kc30, kc31, kc32, kc33] at q112
                rw [v2, bg_Cmp_lt, bg_W_id (by omega) (by omega), bg_W_id (by omega) (by omega)] at q112
                iterate 2 (refine hX _ ?_; conv => whnf)
                first
                | (rw [if_neg (by omega)] at ih; exact ih _ f1 f2)
                | (rw [if_pos ⟨⟨by omega, c4, by omega⟩, by omega⟩] at ih; exact ih _ f1 f2)
              · try simp (disch := omega) only [bg_w_id, Int.toNat_natCast, rw_land, sh_land, not_true_eq_false, e120, kc0, kc1, kc2, kc3, kc4, kc5, kc6, kc7, kc8, kc9, kc10, kc11, kc12, kc13, kc14, kc15, kc16, kc17, kc18, kc19, kc20, kc21, kc22, kc23, kc24, kc25, kc26, kc27, kc28, kc29, kc30, kc31, kc32, kc33] at q112
                rw [v2, bg_Cmp_lt, bg_W_id (by omega) (by omega), bg_W_id (by omega) (by omega)] at q112
                iterate 4 (refine hX _ ?_; conv => whnf)
                first
                | (rw [if_neg (by omega)] at ih; exact ih _ f1 f2)
                | (rw [if_pos ⟨⟨by omega, c4, by omega⟩, by omega⟩] at ih; exact ih _ f1 f2)
      · iterate 2 (refine hX _ ?_; conv => whnf)
        refine hX _ ?_; conv => whnf
        try simp (disch := omega) only [bg_w_id, Int.toNat_natCast, rw_land, sh_land, not_true_eq_false]
        refine s_msetMany (d + 2) n h' (by rw [e118]; omega) _ ?_
        rw [e118, show 2 ^ (12 + (h 119 0).toNat) = Q from hQ.symm]
        conv => whnf
        refine hX _ ?_; conv => whnf
        refine ⟨fun q66 => ?_, fun q66 => ?_⟩
        · exfalso
          (try simp (disch := omega) only [bg_w_id, Int.toNat_natCast, rw_land, sh_land, not_true_eq_false, kc0, kc1, kc2, kc3, kc4, kc5, kc6, kc7, kc8, kc9, kc10, kc11, kc12, kc13, kc14, kc15, kc16, kc17, kc18, kc19, kc20, kc21, kc22, kc23, kc24, kc25, kc26, kc27, kc28, kc29, kc30, kc31, kc32, kc33] at q66) <;> (omega)
        · try simp (disch := omega) only [bg_w_id, Int.toNat_natCast, rw_land, sh_land, not_true_eq_false, kc0, kc1, kc2, kc3, kc4, kc5, kc6, kc7, kc8, kc9, kc10, kc11, kc12, kc13, kc14, kc15, kc16, kc17, kc18, kc19, kc20, kc21, kc22, kc23, kc24, kc25, kc26, kc27, kc28, kc29, kc30, kc31, kc32, kc33] at q66
          iterate 2 (refine hX _ ?_; conv => whnf)
          refine hX _ ?_; conv => whnf
          try simp (disch := omega) only [bg_w_id, Int.toNat_natCast, rw_land, sh_land, not_true_eq_false]
          refine s_ap_f (d + 2) _ _ _ _ (by omega) (fun e => c4 (by rw [e116, e118] at e; exact e)) ?_
          conv => whnf
          refine hX _ ?_; conv => whnf
          refine ⟨fun q74 => ?_, fun q74 => ?_⟩
          · try simp (disch := omega) only [bg_w_id, Int.toNat_natCast, rw_land, sh_land, not_true_eq_false, kc0, kc1, kc2, kc3, kc4, kc5, kc6, kc7, kc8, kc9, kc10, kc11, kc12, kc13, kc14, kc15, kc16, kc17, kc18, kc19, kc20, kc21, kc22, kc23, kc24, kc25, kc26, kc27, kc28, kc29, kc30, kc31, kc32, kc33] at q74
            iterate 2 (refine hX _ ?_; conv => whnf)
            rw [if_neg (fun e => c4 e.1.2.1)] at ih
            exact ih _ f1 f2
          · exfalso
            (try simp (disch := omega) only [bg_w_id, Int.toNat_natCast, rw_land, sh_land, not_true_eq_false, kc0, kc1, kc2, kc3, kc4, kc5, kc6, kc7, kc8, kc9, kc10, kc11, kc12, kc13, kc14, kc15, kc16, kc17, kc18, kc19, kc20, kc21, kc22, kc23, kc24, kc25, kc26, kc27, kc28, kc29, kc30, kc31, kc32, kc33] at q74) <;> (omega)
  have l1 : ∀ (h1 : bg_G), frW h h1 → ∀ q, q ≤ M → ∀ (h' : bg_G) (j3 : Option bg_V), (∀ k, k ≠ 134 → h' k = h1 k) → (∀ m : Nat, m < q → h' 134 m = payM h m) → X (15, [oR 115, oI (M : Int), oI (q : Int), j3], [], (bg_SH n, h'), (0, 0)) := by
    intro h1 hf
    refine lp_up M _ ?_ (fun q hq ih => ?_)
    · intro h' j3 f1 f2
      iterate 2 (refine hX _ ?_; conv => whnf)
      refine hX _ ?_; conv => whnf
      refine ⟨fun q17 => ?_, fun q17 => ?_⟩
      · try simp (disch := omega) only [bg_w_id, Int.toNat_natCast, rw_land, sh_land, not_true_eq_false, kc0, kc1, kc2, kc3, kc4, kc5, kc6, kc7, kc8, kc9, kc10, kc11, kc12, kc13, kc14, kc15, kc16, kc17, kc18, kc19, kc20, kc21, kc22, kc23, kc24, kc25, kc26, kc27, kc28, kc29, kc30, kc31, kc32, kc33] at q17
        iterate 4 (refine hX _ ?_; conv => whnf)
        exact l2 h1 hf 1 (by omega) (by omega) h' f1 f2
      · exfalso
        (try simp (disch := omega) only [bg_w_id, Int.toNat_natCast, rw_land, sh_land, not_true_eq_false, kc0, kc1, kc2, kc3, kc4, kc5, kc6, kc7, kc8, kc9, kc10, kc11, kc12, kc13, kc14, kc15, kc16, kc17, kc18, kc19, kc20, kc21, kc22, kc23, kc24, kc25, kc26, kc27, kc28, kc29, kc30, kc31, kc32, kc33] at q17) <;> (omega)
    · intro h' j3 f1 f2
      obtain ⟨hb, ehb⟩ : ∃ hb : bg_G, hb = fun k => if k = 134 then h' 134 else h k := ⟨_, rfl⟩
      have b1 : ∀ k, k ≠ 134 → hb k = h k := fun k hk => by rw [ehb]; exact if_neg hk
      have b2 : hb 134 = h' 134 := by rw [ehb]; exact if_pos rfl
      have hf' : frW hb h' := by
        refine ⟨fun k a b c d => ?_, fun j a b => ?_, ?_, ?_⟩
        · by_cases e : k = 134
          · subst e; exact b2.symm
          · rw [f1 k e, hf.1 k a b c d, b1 k e]
        · rw [f1 115 (by omega), hf.2.1 j a b, b1 115 (by omega)]
        · rw [f1 115 (by omega), hf.2.2.1]
        · have := hf.2.2.2
          rw [show wsM h' = wsM h1 by unfold wsM; rw [f1 117 (by omega), f1 118 (by omega)]]
          exact tbM_fr (by rw [f1 115 (by omega)]) (f1 127 (by omega)) (f1 128 (by omega)) this
      have hob : okM hb := okM_fr ho (b1 _ (by omega)) (b1 _ (by omega)) (b1 _ (by omega)) (b1 _ (by omega)) (b1 _ (by omega))
      have eg : ∀ s, gnM hb s = gnM h s := fun s => gnM_fr (b1 _ (by omega)) (b1 _ (by omega)) (b1 _ (by omega))
      have ew : wsM hb = wsM h := by unfold wsM; rw [b1 117 (by omega), b1 118 (by omega)]
      have ebw : ∀ s, bwM hb s = bwM h s := fun s => by unfold bwM; rw [eg, ew]
      have e120 : h' 121 = h 121 := by rw [f1 121 (by omega), hf.1 121 (by omega) (by omega) (by omega) (by omega)]
      have wl : (wsM hb).length ≤ 400 := wsG_len _ _ _
      have rb := bwM_rg hob hf' (q : Int)
      rw [ebw] at rb
      have nx : ∀ (v : Int) (j3 : Option bg_V), v = payM h q → X (15, [oR 115, oI (M : Int), oI ((q : Int) + 1), j3], [], (bg_SH n, bg_up h' 134 q v), (0, 0)) := by
        intro v j3 ev
        refine ih _ _ (fun k hk => by rw [bg_up_ne hk]; exact f1 k hk) (fun m hm => ?_)
        by_cases e : m = q
        · subst e; rw [bg_up_self]; exact ev
        · rw [bg_up_nj (by omega)]; exact f2 m (by omega)
      by_cases c : bwM h (q : Int) = -4
      · iterate 2 (refine hX _ ?_; conv => whnf)
        refine hX _ ?_; conv => whnf
        refine ⟨fun q17 => ?_, fun q17 => ?_⟩
        · exfalso
          (try simp (disch := omega) only [bg_w_id, Int.toNat_natCast, rw_land, sh_land, not_true_eq_false, kc0, kc1, kc2, kc3, kc4, kc5, kc6, kc7, kc8, kc9, kc10, kc11, kc12, kc13, kc14, kc15, kc16, kc17, kc18, kc19, kc20, kc21, kc22, kc23, kc24, kc25, kc26, kc27, kc28, kc29, kc30, kc31, kc32, kc33] at q17) <;> (omega)
        · try simp (disch := omega) only [bg_w_id, Int.toNat_natCast, rw_land, sh_land, not_true_eq_false, kc0, kc1, kc2, kc3, kc4, kc5, kc6, kc7, kc8, kc9, kc10, kc11, kc12, kc13, kc14, kc15, kc16, kc17, kc18, kc19, kc20, kc21, kc22, kc23, kc24, kc25, kc26, kc27, kc28, kc29, kc30, kc31, kc32, kc33] at q17
          iterate 2 (refine hX _ ?_; conv => whnf)
          refine hX _ ?_; conv => whnf
          try simp (disch := omega) only [bg_w_id, Int.toNat_natCast, rw_land, sh_land, not_true_eq_false]
          refine s_mbw d n _ hb h' hob hf' _ ?_
          rw [ebw, c]
          conv => whnf
          iterate 6 (refine hX _ ?_; conv => whnf)
          refine hX _ ?_; conv => whnf
          refine ⟨fun q34 => ?_, fun q34 => ?_⟩
          · exfalso
            (try simp (disch := omega) only [bg_w_id, Int.toNat_natCast, rw_land, sh_land, not_true_eq_false, kc0, kc1, kc2, kc3, kc4, kc5, kc6, kc7, kc8, kc9, kc10, kc11, kc12, kc13, kc14, kc15, kc16, kc17, kc18, kc19, kc20, kc21, kc22, kc23, kc24, kc25, kc26, kc27, kc28, kc29, kc30, kc31, kc32, kc33] at q34) <;> (omega)
          · try simp (disch := omega) only [bg_w_id, Int.toNat_natCast, rw_land, sh_land, not_true_eq_false, kc0, kc1, kc2, kc3, kc4, kc5, kc6, kc7, kc8, kc9, kc10, kc11, kc12, kc13, kc14, kc15, kc16, kc17, kc18, kc19, kc20, kc21, kc22, kc23, kc24, kc25, kc26, kc27, kc28, kc29, kc30, kc31, kc32, kc33] at q34
            refine hX _ ?_; conv => whnf
            refine hX _ ?_; conv => whnf
            try simp (disch := omega) only [bg_w_id, Int.toNat_natCast, rw_land, sh_land, not_true_eq_false]
            refine s_melse (d + 2) n h' _ ?_ (by rw [e120]; omega)
            rw [e120]
            conv => whnf
            refine hX _ ?_; conv => whnf
            refine hX _ ?_; conv => whnf
            try (simp (disch := omega) only [bg_w_id, Int.toNat_natCast, rw_land, sh_land, not_true_eq_false]; try conv => whnf)
            refine ⟨by first | omega | (simp (disch := omega) only [bg_w_id, Int.toNat_natCast, rw_land, sh_land, not_true_eq_false]; omega), ?_⟩
            iterate 2 (refine hX _ ?_; conv => whnf)
            exact nx _ _ (by unfold payM; rw [if_pos c])
      · obtain ⟨v, ev⟩ : ∃ v : Nat, bwM h (q : Int) = v := ⟨(bwM h (q : Int)).toNat, by omega⟩
        iterate 2 (refine hX _ ?_; conv => whnf)
        refine hX _ ?_; conv => whnf
        refine ⟨fun q17 => ?_, fun q17 => ?_⟩
        · exfalso
          (try simp (disch := omega) only [bg_w_id, Int.toNat_natCast, rw_land, sh_land, not_true_eq_false, kc0, kc1, kc2, kc3, kc4, kc5, kc6, kc7, kc8, kc9, kc10, kc11, kc12, kc13, kc14, kc15, kc16, kc17, kc18, kc19, kc20, kc21, kc22, kc23, kc24, kc25, kc26, kc27, kc28, kc29, kc30, kc31, kc32, kc33] at q17) <;> (omega)
        · try simp (disch := omega) only [bg_w_id, Int.toNat_natCast, rw_land, sh_land, not_true_eq_false, kc0, kc1, kc2, kc3, kc4, kc5, kc6, kc7, kc8, kc9, kc10, kc11, kc12, kc13, kc14, kc15, kc16, kc17, kc18, kc19, kc20, kc21, kc22, kc23, kc24, kc25, kc26, kc27, kc28, kc29, kc30, kc31, kc32, kc33] at q17
          iterate 2 (refine hX _ ?_; conv => whnf)
          refine hX _ ?_; conv => whnf
          try simp (disch := omega) only [bg_w_id, Int.toNat_natCast, rw_land, sh_land, not_true_eq_false]
          refine s_mbw d n _ hb h' hob hf' _ ?_
          rw [ebw, ev]
          conv => whnf
          iterate 6 (refine hX _ ?_; conv => whnf)
          refine hX _ ?_; conv => whnf
          refine ⟨fun q34 => ?_, fun q34 => ?_⟩
          · try simp (disch := omega) only [bg_w_id, Int.toNat_natCast, rw_land, sh_land, not_true_eq_false, kc0, kc1, kc2, kc3, kc4, kc5, kc6, kc7, kc8, kc9, kc10, kc11, kc12, kc13, kc14, kc15, kc16, kc17, kc18, kc19, kc20, kc21, kc22, kc23, kc24, kc25, kc26, kc27, kc28, kc29, kc30, kc31, kc32, kc33] at q34
            iterate 3 (refine hX _ ?_; conv => whnf)
            refine hX _ ?_; conv => whnf
            try simp (disch := omega) only [bg_w_id, Int.toNat_natCast, rw_land, sh_land, not_true_eq_false]
            refine s_mgn (d + 1) n _ v hb h' hob hf' (by omega) _ ?_
            rw [eg]
            conv => whnf
            refine hX _ ?_; conv => whnf
            try (simp (disch := omega) only [bg_w_id, Int.toNat_natCast, rw_land, sh_land, not_true_eq_false]; try conv => whnf)
            refine ⟨by first | omega | (simp (disch := omega) only [bg_w_id, Int.toNat_natCast, rw_land, sh_land, not_true_eq_false]; omega), ?_⟩
            iterate 2 (refine hX _ ?_; conv => whnf)
            exact nx _ _ (by unfold payM; rw [if_neg c, ev, Int.toNat_natCast])
          · exfalso
            (try simp (disch := omega) only [bg_w_id, Int.toNat_natCast, rw_land, sh_land, not_true_eq_false, kc0, kc1, kc2, kc3, kc4, kc5, kc6, kc7, kc8, kc9, kc10, kc11, kc12, kc13, kc14, kc15, kc16, kc17, kc18, kc19, kc20, kc21, kc22, kc23, kc24, kc25, kc26, kc27, kc28, kc29, kc30, kc31, kc32, kc33] at q34) <;> (omega)
  refine hX _ ?_; conv => whnf
  refine hX _ ?_; conv => whnf
  try simp (disch := omega) only [bg_w_id, Int.toNat_natCast, rw_land, sh_land, not_true_eq_false]
  refine s_mLW (d + 1) n h ho hl _ (fun h' hf => ?_)
  have e116 := hf.1 117 (by omega) (by omega) (by omega) (by omega)
  conv => whnf
  iterate 4 (refine hX _ ?_; conv => whnf)
  refine hX _ ?_; conv => whnf
  try (simp (disch := omega) only [bg_w_id, Int.toNat_natCast, rw_land, sh_land, not_true_eq_false]; try conv => whnf)
  refine ⟨by first | omega | (simp (disch := omega) only [bg_w_id, Int.toNat_natCast, rw_land, sh_land, not_true_eq_false]; omega), ?_⟩
  iterate 4 (refine hX _ ?_; conv => whnf)
  have := l1 h' hf 0 (by omega) h' none (fun _ _ => rfl) (fun m hm => absurd hm (by omega))
  rw [e116, ← hN, eM]
  exact this
theorem s_mguard (d n : Nat) (g s : Int) (hgi : i32 g) (hs : i32 s) (h : bg_G) (Rt : bg_R) (hR1 : (0 ≤ g ∧ g ≤ 3) → (s = -1 ∨ okS (h 117 0) (h 119 0) s) → Rt (some (.inl (h 122 g))) (bg_SH n, bg_up h 122 g s)) (hR0 : ¬ ((0 ≤ g ∧ g ≤ 3) ∧ (s = -1 ∨ okS (h 117 0) (h 119 0) s)) → Rt (some (.inl (-100))) (bg_SH n, h)) : bg_Ca bg_MS (d + 2) 165 [vR 115, vI g, vI s] (bg_SH n, h) Rt := by
  refine bg_ca (cd := cd_X9_guard) rfl rfl ?_
  intro X hX
  by_cases c1 : 0 ≤ g ∧ g ≤ 3
  · by_cases c2 : s = -1
    · have hR1 := hR1 c1 (Or.inl c2)
      iterate 4 (refine hX _ ?_; conv => whnf)
      try simp (disch := omega) only [bg_w_id, Int.toNat_natCast, rw_land, sh_land, not_true_eq_false]
      refine hX _ ?_; conv => whnf
      try simp (disch := omega) only [bg_w_id, Int.toNat_natCast, rw_land, sh_land, not_true_eq_false]
      refine s_in_t d _ _ _ _ _ (by omega) (by omega) (by omega) c1 ?_
      conv => whnf
      refine hX _ ?_; conv => whnf
      refine ⟨fun q9 => ?_, fun q9 => ?_⟩
      · exfalso
        (try simp (disch := omega) only [bg_w_id, Int.toNat_natCast, rw_land, sh_land, not_true_eq_false, kc0, kc1, kc2, kc3, kc4, kc5, kc6, kc7, kc8, kc9, kc10, kc11, kc12, kc13, kc14, kc15, kc16, kc17, kc18, kc19, kc20, kc21, kc22, kc23, kc24, kc25, kc26, kc27, kc28, kc29, kc30, kc31, kc32, kc33] at q9) <;> (omega)
      · try simp (disch := omega) only [bg_w_id, Int.toNat_natCast, rw_land, sh_land, not_true_eq_false, kc0, kc1, kc2, kc3, kc4, kc5, kc6, kc7, kc8, kc9, kc10, kc11, kc12, kc13, kc14, kc15, kc16, kc17, kc18, kc19, kc20, kc21, kc22, kc23, kc24, kc25, kc26, kc27, kc28, kc29, kc30, kc31, kc32, kc33] at q9
        iterate 2 (refine hX _ ?_; conv => whnf)
        refine hX _ ?_; conv => whnf
        refine ⟨fun q14 => ?_, fun q14 => ?_⟩
        · try simp (disch := omega) only [bg_w_id, Int.toNat_natCast, rw_land, sh_land, not_true_eq_false, kc0, kc1, kc2, kc3, kc4, kc5, kc6, kc7, kc8, kc9, kc10, kc11, kc12, kc13, kc14, kc15, kc16, kc17, kc18, kc19, kc20, kc21, kc22, kc23, kc24, kc25, kc26, kc27, kc28, kc29, kc30, kc31, kc32, kc33] at q14
          iterate 3 (refine hX _ ?_; conv => whnf)
          refine hX _ ?_; conv => whnf
          try (simp (disch := omega) only [bg_w_id, Int.toNat_natCast, rw_land, sh_land, not_true_eq_false]; try conv => whnf)
          refine ⟨by first | omega | (simp (disch := omega) only [bg_w_id, Int.toNat_natCast, rw_land, sh_land, not_true_eq_false]; omega), ?_⟩
          iterate 5 (refine hX _ ?_; conv => whnf)
          refine hX _ ?_; conv => whnf
          try (simp (disch := omega) only [bg_w_id, Int.toNat_natCast, rw_land, sh_land, not_true_eq_false]; try conv => whnf)
          refine ⟨by first | omega | (simp (disch := omega) only [bg_w_id, Int.toNat_natCast, rw_land, sh_land, not_true_eq_false]; omega), ?_⟩
          refine hX _ ?_; conv => whnf
          refine hX _ ?_; conv => whnf
          exact hR1
        · exfalso
          (try simp (disch := omega) only [bg_w_id, Int.toNat_natCast, rw_land, sh_land, not_true_eq_false, kc0, kc1, kc2, kc3, kc4, kc5, kc6, kc7, kc8, kc9, kc10, kc11, kc12, kc13, kc14, kc15, kc16, kc17, kc18, kc19, kc20, kc21, kc22, kc23, kc24, kc25, kc26, kc27, kc28, kc29, kc30, kc31, kc32, kc33] at q14) <;> (omega)
    · by_cases c3 : okS (h 117 0) (h 119 0) s
      · have hR1 := hR1 c1 (Or.inr c3)
        iterate 4 (refine hX _ ?_; conv => whnf)
        try simp (disch := omega) only [bg_w_id, Int.toNat_natCast, rw_land, sh_land, not_true_eq_false]
        refine hX _ ?_; conv => whnf
        try simp (disch := omega) only [bg_w_id, Int.toNat_natCast, rw_land, sh_land, not_true_eq_false]
        refine s_in_t d _ _ _ _ _ (by omega) (by omega) (by omega) c1 ?_
        conv => whnf
        refine hX _ ?_; conv => whnf
        refine ⟨fun q9 => ?_, fun q9 => ?_⟩
        · exfalso
          (try simp (disch := omega) only [bg_w_id, Int.toNat_natCast, rw_land, sh_land, not_true_eq_false, kc0, kc1, kc2, kc3, kc4, kc5, kc6, kc7, kc8, kc9, kc10, kc11, kc12, kc13, kc14, kc15, kc16, kc17, kc18, kc19, kc20, kc21, kc22, kc23, kc24, kc25, kc26, kc27, kc28, kc29, kc30, kc31, kc32, kc33] at q9) <;> (omega)
        · try simp (disch := omega) only [bg_w_id, Int.toNat_natCast, rw_land, sh_land, not_true_eq_false, kc0, kc1, kc2, kc3, kc4, kc5, kc6, kc7, kc8, kc9, kc10, kc11, kc12, kc13, kc14, kc15, kc16, kc17, kc18, kc19, kc20, kc21, kc22, kc23, kc24, kc25, kc26, kc27, kc28, kc29, kc30, kc31, kc32, kc33] at q9
          iterate 2 (refine hX _ ?_; conv => whnf)
          refine hX _ ?_; conv => whnf
          refine ⟨fun q14 => ?_, fun q14 => ?_⟩
          · exfalso
            (try simp (disch := omega) only [bg_w_id, Int.toNat_natCast, rw_land, sh_land, not_true_eq_false, kc0, kc1, kc2, kc3, kc4, kc5, kc6, kc7, kc8, kc9, kc10, kc11, kc12, kc13, kc14, kc15, kc16, kc17, kc18, kc19, kc20, kc21, kc22, kc23, kc24, kc25, kc26, kc27, kc28, kc29, kc30, kc31, kc32, kc33] at q14) <;> (omega)
          · try simp (disch := omega) only [bg_w_id, Int.toNat_natCast, rw_land, sh_land, not_true_eq_false, kc0, kc1, kc2, kc3, kc4, kc5, kc6, kc7, kc8, kc9, kc10, kc11, kc12, kc13, kc14, kc15, kc16, kc17, kc18, kc19, kc20, kc21, kc22, kc23, kc24, kc25, kc26, kc27, kc28, kc29, kc30, kc31, kc32, kc33] at q14
            iterate 2 (refine hX _ ?_; conv => whnf)
            refine hX _ ?_; conv => whnf
            try simp (disch := omega) only [bg_w_id, Int.toNat_natCast, rw_land, sh_land, not_true_eq_false]
            refine s_ap_t d _ _ _ _ hs c3 ?_
            conv => whnf
            refine hX _ ?_; conv => whnf
            refine ⟨fun q22 => ?_, fun q22 => ?_⟩
            · try simp (disch := omega) only [bg_w_id, Int.toNat_natCast, rw_land, sh_land, not_true_eq_false, kc0, kc1, kc2, kc3, kc4, kc5, kc6, kc7, kc8, kc9, kc10, kc11, kc12, kc13, kc14, kc15, kc16, kc17, kc18, kc19, kc20, kc21, kc22, kc23, kc24, kc25, kc26, kc27, kc28, kc29, kc30, kc31, kc32, kc33] at q22
              iterate 3 (refine hX _ ?_; conv => whnf)
              refine hX _ ?_; conv => whnf
              try (simp (disch := omega) only [bg_w_id, Int.toNat_natCast, rw_land, sh_land, not_true_eq_false]; try conv => whnf)
              refine ⟨by first | omega | (simp (disch := omega) only [bg_w_id, Int.toNat_natCast, rw_land, sh_land, not_true_eq_false]; omega), ?_⟩
              iterate 5 (refine hX _ ?_; conv => whnf)
              refine hX _ ?_; conv => whnf
              try (simp (disch := omega) only [bg_w_id, Int.toNat_natCast, rw_land, sh_land, not_true_eq_false]; try conv => whnf)
              refine ⟨by first | omega | (simp (disch := omega) only [bg_w_id, Int.toNat_natCast, rw_land, sh_land, not_true_eq_false]; omega), ?_⟩
              refine hX _ ?_; conv => whnf
              refine hX _ ?_; conv => whnf
              exact hR1
            · exfalso
              (try simp (disch := omega) only [bg_w_id, Int.toNat_natCast, rw_land, sh_land, not_true_eq_false, kc0, kc1, kc2, kc3, kc4, kc5, kc6, kc7, kc8, kc9, kc10, kc11, kc12, kc13, kc14, kc15, kc16, kc17, kc18, kc19, kc20, kc21, kc22, kc23, kc24, kc25, kc26, kc27, kc28, kc29, kc30, kc31, kc32, kc33] at q22) <;> (omega)
      · iterate 4 (refine hX _ ?_; conv => whnf)
        try simp (disch := omega) only [bg_w_id, Int.toNat_natCast, rw_land, sh_land, not_true_eq_false]
        refine hX _ ?_; conv => whnf
        try simp (disch := omega) only [bg_w_id, Int.toNat_natCast, rw_land, sh_land, not_true_eq_false]
        refine s_in_t d _ _ _ _ _ (by omega) (by omega) (by omega) c1 ?_
        conv => whnf
        refine hX _ ?_; conv => whnf
        refine ⟨fun q9 => ?_, fun q9 => ?_⟩
        · exfalso
          (try simp (disch := omega) only [bg_w_id, Int.toNat_natCast, rw_land, sh_land, not_true_eq_false, kc0, kc1, kc2, kc3, kc4, kc5, kc6, kc7, kc8, kc9, kc10, kc11, kc12, kc13, kc14, kc15, kc16, kc17, kc18, kc19, kc20, kc21, kc22, kc23, kc24, kc25, kc26, kc27, kc28, kc29, kc30, kc31, kc32, kc33] at q9) <;> (omega)
        · try simp (disch := omega) only [bg_w_id, Int.toNat_natCast, rw_land, sh_land, not_true_eq_false, kc0, kc1, kc2, kc3, kc4, kc5, kc6, kc7, kc8, kc9, kc10, kc11, kc12, kc13, kc14, kc15, kc16, kc17, kc18, kc19, kc20, kc21, kc22, kc23, kc24, kc25, kc26, kc27, kc28, kc29, kc30, kc31, kc32, kc33] at q9
          iterate 2 (refine hX _ ?_; conv => whnf)
          refine hX _ ?_; conv => whnf
          refine ⟨fun q14 => ?_, fun q14 => ?_⟩
          · exfalso
            (try simp (disch := omega) only [bg_w_id, Int.toNat_natCast, rw_land, sh_land, not_true_eq_false, kc0, kc1, kc2, kc3, kc4, kc5, kc6, kc7, kc8, kc9, kc10, kc11, kc12, kc13, kc14, kc15, kc16, kc17, kc18, kc19, kc20, kc21, kc22, kc23, kc24, kc25, kc26, kc27, kc28, kc29, kc30, kc31, kc32, kc33] at q14) <;> (omega)
          · try simp (disch := omega) only [bg_w_id, Int.toNat_natCast, rw_land, sh_land, not_true_eq_false, kc0, kc1, kc2, kc3, kc4, kc5, kc6, kc7, kc8, kc9, kc10, kc11, kc12, kc13, kc14, kc15, kc16, kc17, kc18, kc19, kc20, kc21, kc22, kc23, kc24, kc25, kc26, kc27, kc28, kc29, kc30, kc31, kc32, kc33] at q14
            iterate 2 (refine hX _ ?_; conv => whnf)
            refine hX _ ?_; conv => whnf
            try simp (disch := omega) only [bg_w_id, Int.toNat_natCast, rw_land, sh_land, not_true_eq_false]
            refine s_ap_f d _ _ _ _ hs c3 ?_
            conv => whnf
            refine hX _ ?_; conv => whnf
            refine ⟨fun q22 => ?_, fun q22 => ?_⟩
            · exfalso
              (try simp (disch := omega) only [bg_w_id, Int.toNat_natCast, rw_land, sh_land, not_true_eq_false, kc0, kc1, kc2, kc3, kc4, kc5, kc6, kc7, kc8, kc9, kc10, kc11, kc12, kc13, kc14, kc15, kc16, kc17, kc18, kc19, kc20, kc21, kc22, kc23, kc24, kc25, kc26, kc27, kc28, kc29, kc30, kc31, kc32, kc33] at q22) <;> (omega)
            · try simp (disch := omega) only [bg_w_id, Int.toNat_natCast, rw_land, sh_land, not_true_eq_false, kc0, kc1, kc2, kc3, kc4, kc5, kc6, kc7, kc8, kc9, kc10, kc11, kc12, kc13, kc14, kc15, kc16, kc17, kc18, kc19, kc20, kc21, kc22, kc23, kc24, kc25, kc26, kc27, kc28, kc29, kc30, kc31, kc32, kc33] at q22
              refine hX _ ?_; conv => whnf
              refine hX _ ?_; conv => whnf
              exact hR0 (fun e => e.2.elim c2 c3)
  · iterate 4 (refine hX _ ?_; conv => whnf)
    try simp (disch := omega) only [bg_w_id, Int.toNat_natCast, rw_land, sh_land, not_true_eq_false]
    refine hX _ ?_; conv => whnf
    try simp (disch := omega) only [bg_w_id, Int.toNat_natCast, rw_land, sh_land, not_true_eq_false]
    refine s_in_f d _ _ _ _ _ (by omega) (by omega) (by omega) c1 ?_
    conv => whnf
    refine hX _ ?_; conv => whnf
    refine ⟨fun q9 => ?_, fun q9 => ?_⟩
    · try simp (disch := omega) only [bg_w_id, Int.toNat_natCast, rw_land, sh_land, not_true_eq_false, kc0, kc1, kc2, kc3, kc4, kc5, kc6, kc7, kc8, kc9, kc10, kc11, kc12, kc13, kc14, kc15, kc16, kc17, kc18, kc19, kc20, kc21, kc22, kc23, kc24, kc25, kc26, kc27, kc28, kc29, kc30, kc31, kc32, kc33] at q9
      refine hX _ ?_; conv => whnf
      refine hX _ ?_; conv => whnf
      exact hR0 (fun e => c1 e.1)
    · exfalso
      (try simp (disch := omega) only [bg_w_id, Int.toNat_natCast, rw_land, sh_land, not_true_eq_false, kc0, kc1, kc2, kc3, kc4, kc5, kc6, kc7, kc8, kc9, kc10, kc11, kc12, kc13, kc14, kc15, kc16, kc17, kc18, kc19, kc20, kc21, kc22, kc23, kc24, kc25, kc26, kc27, kc28, kc29, kc30, kc31, kc32, kc33] at q9) <;> (omega)
theorem s_mcarrier (d n : Nat) (c w : Int) (hc : i32 c) (hw : i32 w) (h : bg_G) (ho : okM h) (hl : wayL h) (Rt : bg_R) (hR1 : (0 ≤ c ∧ c ≤ 3) → (-1 ≤ w ∧ w < (wsM h).length) → ∀ h' : bg_G, frW h h' → Rt (some (.inl (h 123 c))) (bg_SH n, bg_up h' 123 c w)) (hR0 : ¬ ((0 ≤ c ∧ c ≤ 3) ∧ (-1 ≤ w ∧ w < (wsM h).length)) → ∀ h' : bg_G, frW h h' → Rt (some (.inl (-100))) (bg_SH n, h')) : bg_Ca bg_MS (d + 3) 166 [vR 115, vI c, vI w] (bg_SH n, h) Rt := by
  refine bg_ca (cd := cd_X9_carrier) rfl rfl ?_
  intro X hX
  by_cases c1 : 0 ≤ c ∧ c ≤ 3
  · by_cases c2 : -1 ≤ w ∧ w ≤ ((wsM h).length : Int) - 1
    · have hR1 := hR1 c1 (by omega)
      refine hX _ ?_; conv => whnf
      refine hX _ ?_; conv => whnf
      try simp (disch := omega) only [bg_w_id, Int.toNat_natCast, rw_land, sh_land, not_true_eq_false]
      refine s_mLW d n h ho hl _ (fun h' hf => ?_)
      obtain ⟨t1, t2, t3⟩ := frW_tbl hf ho
      have hR1 := hR1 h' hf
      have e122 := hf.1 123 (by omega) (by omega) (by omega) (by omega)
      conv => whnf
      iterate 4 (refine hX _ ?_; conv => whnf)
      try simp (disch := omega) only [bg_w_id, Int.toNat_natCast, rw_land, sh_land, not_true_eq_false]
      refine hX _ ?_; conv => whnf
      try simp (disch := omega) only [bg_w_id, Int.toNat_natCast, rw_land, sh_land, not_true_eq_false]
      refine s_in_t (d + 1) _ _ _ _ _ (by omega) (by omega) (by omega) c1 ?_
      conv => whnf
      refine hX _ ?_; conv => whnf
      refine ⟨fun q13 => ?_, fun q13 => ?_⟩
      · exfalso
        (try simp (disch := omega) only [bg_w_id, Int.toNat_natCast, rw_land, sh_land, not_true_eq_false, kc0, kc1, kc2, kc3, kc4, kc5, kc6, kc7, kc8, kc9, kc10, kc11, kc12, kc13, kc14, kc15, kc16, kc17, kc18, kc19, kc20, kc21, kc22, kc23, kc24, kc25, kc26, kc27, kc28, kc29, kc30, kc31, kc32, kc33] at q13) <;> (omega)
      · try simp (disch := omega) only [bg_w_id, Int.toNat_natCast, rw_land, sh_land, not_true_eq_false, kc0, kc1, kc2, kc3, kc4, kc5, kc6, kc7, kc8, kc9, kc10, kc11, kc12, kc13, kc14, kc15, kc16, kc17, kc18, kc19, kc20, kc21, kc22, kc23, kc24, kc25, kc26, kc27, kc28, kc29, kc30, kc31, kc32, kc33] at q13
        iterate 8 (refine hX _ ?_; conv => whnf)
        try simp only [kc0, kc1, kc2, kc3, kc4, kc5, kc6, kc7, kc8, kc9, kc10, kc11, kc12, kc13, kc14, kc15, kc16, kc17, kc18, kc19, kc20, kc21, kc22, kc23, kc24, kc25, kc26, kc27, kc28, kc29, kc30, kc31, kc32, kc33]
        try simp (disch := omega) only [bg_w_id, Int.toNat_natCast, rw_land, sh_land, not_true_eq_false, kc0, kc1, kc2, kc3, kc4, kc5, kc6, kc7, kc8, kc9, kc10, kc11, kc12, kc13, kc14, kc15, kc16, kc17, kc18, kc19, kc20, kc21, kc22, kc23, kc24, kc25, kc26, kc27, kc28, kc29, kc30, kc31, kc32, kc33]
        refine hX _ ?_; conv => whnf
        try simp (disch := omega) only [bg_w_id, Int.toNat_natCast, rw_land, sh_land, not_true_eq_false]
        simp (disch := omega) only [t1, bg_w_id]
        refine s_in_t (d + 1) _ _ _ _ _ (by omega) (by omega) (by omega) c2 ?_
        conv => whnf
        refine hX _ ?_; conv => whnf
        refine ⟨fun q31 => ?_, fun q31 => ?_⟩
        · try simp (disch := omega) only [bg_w_id, Int.toNat_natCast, rw_land, sh_land, not_true_eq_false, kc0, kc1, kc2, kc3, kc4, kc5, kc6, kc7, kc8, kc9, kc10, kc11, kc12, kc13, kc14, kc15, kc16, kc17, kc18, kc19, kc20, kc21, kc22, kc23, kc24, kc25, kc26, kc27, kc28, kc29, kc30, kc31, kc32, kc33] at q31
          iterate 3 (refine hX _ ?_; conv => whnf)
          refine hX _ ?_; conv => whnf
          try (simp (disch := omega) only [bg_w_id, Int.toNat_natCast, rw_land, sh_land, not_true_eq_false]; try conv => whnf)
          refine ⟨by first | omega | (simp (disch := omega) only [bg_w_id, Int.toNat_natCast, rw_land, sh_land, not_true_eq_false]; omega), ?_⟩
          iterate 5 (refine hX _ ?_; conv => whnf)
          refine hX _ ?_; conv => whnf
          try (simp (disch := omega) only [bg_w_id, Int.toNat_natCast, rw_land, sh_land, not_true_eq_false]; try conv => whnf)
          refine ⟨by first | omega | (simp (disch := omega) only [bg_w_id, Int.toNat_natCast, rw_land, sh_land, not_true_eq_false]; omega), ?_⟩
          refine hX _ ?_; conv => whnf
          refine hX _ ?_; conv => whnf
          rw [← e122] at hR1
          exact hR1
        · exfalso
          (try simp (disch := omega) only [bg_w_id, Int.toNat_natCast, rw_land, sh_land, not_true_eq_false, kc0, kc1, kc2, kc3, kc4, kc5, kc6, kc7, kc8, kc9, kc10, kc11, kc12, kc13, kc14, kc15, kc16, kc17, kc18, kc19, kc20, kc21, kc22, kc23, kc24, kc25, kc26, kc27, kc28, kc29, kc30, kc31, kc32, kc33] at q31) <;> (omega)
    · have hR0 := hR0 (fun e => c2 (by omega))
      refine hX _ ?_; conv => whnf
      refine hX _ ?_; conv => whnf
      try simp (disch := omega) only [bg_w_id, Int.toNat_natCast, rw_land, sh_land, not_true_eq_false]
      refine s_mLW d n h ho hl _ (fun h' hf => ?_)
      obtain ⟨t1, t2, t3⟩ := frW_tbl hf ho
      conv => whnf
      iterate 4 (refine hX _ ?_; conv => whnf)
      try simp (disch := omega) only [bg_w_id, Int.toNat_natCast, rw_land, sh_land, not_true_eq_false]
      refine hX _ ?_; conv => whnf
      try simp (disch := omega) only [bg_w_id, Int.toNat_natCast, rw_land, sh_land, not_true_eq_false]
      refine s_in_t (d + 1) _ _ _ _ _ (by omega) (by omega) (by omega) c1 ?_
      conv => whnf
      refine hX _ ?_; conv => whnf
      refine ⟨fun q13 => ?_, fun q13 => ?_⟩
      · exfalso
        (try simp (disch := omega) only [bg_w_id, Int.toNat_natCast, rw_land, sh_land, not_true_eq_false, kc0, kc1, kc2, kc3, kc4, kc5, kc6, kc7, kc8, kc9, kc10, kc11, kc12, kc13, kc14, kc15, kc16, kc17, kc18, kc19, kc20, kc21, kc22, kc23, kc24, kc25, kc26, kc27, kc28, kc29, kc30, kc31, kc32, kc33] at q13) <;> (omega)
      · try simp (disch := omega) only [bg_w_id, Int.toNat_natCast, rw_land, sh_land, not_true_eq_false, kc0, kc1, kc2, kc3, kc4, kc5, kc6, kc7, kc8, kc9, kc10, kc11, kc12, kc13, kc14, kc15, kc16, kc17, kc18, kc19, kc20, kc21, kc22, kc23, kc24, kc25, kc26, kc27, kc28, kc29, kc30, kc31, kc32, kc33] at q13
        iterate 8 (refine hX _ ?_; conv => whnf)
        try simp only [kc0, kc1, kc2, kc3, kc4, kc5, kc6, kc7, kc8, kc9, kc10, kc11, kc12, kc13, kc14, kc15, kc16, kc17, kc18, kc19, kc20, kc21, kc22, kc23, kc24, kc25, kc26, kc27, kc28, kc29, kc30, kc31, kc32, kc33]
        try simp (disch := omega) only [bg_w_id, Int.toNat_natCast, rw_land, sh_land, not_true_eq_false, kc0, kc1, kc2, kc3, kc4, kc5, kc6, kc7, kc8, kc9, kc10, kc11, kc12, kc13, kc14, kc15, kc16, kc17, kc18, kc19, kc20, kc21, kc22, kc23, kc24, kc25, kc26, kc27, kc28, kc29, kc30, kc31, kc32, kc33]
        refine hX _ ?_; conv => whnf
        try simp (disch := omega) only [bg_w_id, Int.toNat_natCast, rw_land, sh_land, not_true_eq_false]
        simp (disch := omega) only [t1, bg_w_id]
        refine s_in_f (d + 1) _ _ _ _ _ (by omega) (by omega) (by omega) c2 ?_
        conv => whnf
        refine hX _ ?_; conv => whnf
        refine ⟨fun q31 => ?_, fun q31 => ?_⟩
        · exfalso
          (try simp (disch := omega) only [bg_w_id, Int.toNat_natCast, rw_land, sh_land, not_true_eq_false, kc0, kc1, kc2, kc3, kc4, kc5, kc6, kc7, kc8, kc9, kc10, kc11, kc12, kc13, kc14, kc15, kc16, kc17, kc18, kc19, kc20, kc21, kc22, kc23, kc24, kc25, kc26, kc27, kc28, kc29, kc30, kc31, kc32, kc33] at q31) <;> (omega)
        · try simp (disch := omega) only [bg_w_id, Int.toNat_natCast, rw_land, sh_land, not_true_eq_false, kc0, kc1, kc2, kc3, kc4, kc5, kc6, kc7, kc8, kc9, kc10, kc11, kc12, kc13, kc14, kc15, kc16, kc17, kc18, kc19, kc20, kc21, kc22, kc23, kc24, kc25, kc26, kc27, kc28, kc29, kc30, kc31, kc32, kc33] at q31
          refine hX _ ?_; conv => whnf
          refine hX _ ?_; conv => whnf
          exact hR0 h' hf
  · have hR0 := hR0 (fun e => c1 e.1)
    refine hX _ ?_; conv => whnf
    refine hX _ ?_; conv => whnf
    try simp (disch := omega) only [bg_w_id, Int.toNat_natCast, rw_land, sh_land, not_true_eq_false]
    refine s_mLW d n h ho hl _ (fun h' hf => ?_)
    conv => whnf
    iterate 4 (refine hX _ ?_; conv => whnf)
    try simp (disch := omega) only [bg_w_id, Int.toNat_natCast, rw_land, sh_land, not_true_eq_false]
    refine hX _ ?_; conv => whnf
    try simp (disch := omega) only [bg_w_id, Int.toNat_natCast, rw_land, sh_land, not_true_eq_false]
    refine s_in_f (d + 1) _ _ _ _ _ (by omega) (by omega) (by omega) c1 ?_
    conv => whnf
    refine hX _ ?_; conv => whnf
    refine ⟨fun q13 => ?_, fun q13 => ?_⟩
    · try simp (disch := omega) only [bg_w_id, Int.toNat_natCast, rw_land, sh_land, not_true_eq_false, kc0, kc1, kc2, kc3, kc4, kc5, kc6, kc7, kc8, kc9, kc10, kc11, kc12, kc13, kc14, kc15, kc16, kc17, kc18, kc19, kc20, kc21, kc22, kc23, kc24, kc25, kc26, kc27, kc28, kc29, kc30, kc31, kc32, kc33] at q13
      refine hX _ ?_; conv => whnf
      refine hX _ ?_; conv => whnf
      exact hR0 h' hf
    · exfalso
      (try simp (disch := omega) only [bg_w_id, Int.toNat_natCast, rw_land, sh_land, not_true_eq_false, kc0, kc1, kc2, kc3, kc4, kc5, kc6, kc7, kc8, kc9, kc10, kc11, kc12, kc13, kc14, kc15, kc16, kc17, kc18, kc19, kc20, kc21, kc22, kc23, kc24, kc25, kc26, kc27, kc28, kc29, kc30, kc31, kc32, kc33] at q13) <;> (omega)
