theorem s_msetMany (d n : Nat) (h : bg_G) (hn : 0 ≤ h 119 0 ∧ h 119 0 ≤ 3) (Rt : bg_R) (hR : Rt (some (.inl ((2 ^ (12 + (h 119 0).toNat) : Nat) : Int))) (bg_SH n, h)) : bg_Ca bg_MS (d + 1) 145 [vR 115] (bg_SH n, h) Rt := by
  refine bg_ca (cd := cd_X9_setMany) rfl rfl ?_
  intro X hX
  iterate 5 (refine hX _ ?_; conv => whnf)
  refine hX _ ?_; conv => whnf
  try (simp (disch := omega) only [bg_w_id, Int.toNat_natCast, rw_land, sh_land, not_true_eq_false]; try conv => whnf)
  refine ⟨by first | omega | (simp (disch := omega) only [bg_w_id, Int.toNat_natCast, rw_land, sh_land, not_true_eq_false]; omega), ?_⟩
  iterate 2 (refine hX _ ?_; conv => whnf)
  refine hX _ ?_; conv => whnf
  have e : bg_shl 1 (12 + h 119 0) = ((2 ^ (12 + (h 119 0).toNat) : Nat) : Int) := by
    rw [← bn_bit (by omega), show ((12 + (h 119 0).toNat : Nat) : Int) = 12 + h 119 0 by omega]
  rw [← e] at hR
  exact hR
theorem mt_le {nt : Nat} (h : nt ≤ 3) : 2 ^ (12 + nt) ≤ 32768 := (show 2 ^ (12 + nt) ≤ 2 ^ 15 from Nat.pow_le_pow_right (by decide) (by omega))
theorem bt_sm_rg {n : Nat} {s : Nat → Int} {f : Nat → Int} {B : Int} (hs : ∀ i, s i = 0 ∨ s i = 1) (hf : ∀ i, i < n → 0 ≤ f i ∧ f i ≤ B) (hB : 0 ≤ B) : 0 ≤ sm n (fun i => s i * f i) ∧ sm n (fun i => s i * f i) ≤ n * B := by
  refine sm_rg (fun i hi => ?_)
  have := hf i hi
  rcases hs i with e | e <;> simp [e] <;> omega
theorem costM_rg {h : bg_G} (ho : okM h) (s : Int) : 0 ≤ costM h s ∧ costM h s ≤ 300 := by
  have a := bt_sm_rg (n := 12) (s := fun i => bt s i) (f := fun i => h 118 (7 * i + 4)) (B := 20) (fun i => bt_01 _ _) (fun i hi => by have := ho.2.1 i hi; show 0 ≤ h 118 (7 * i + 4) ∧ h 118 (7 * i + 4) ≤ 20; omega) (by omega)
  have b := bt_sm_rg (n := 3) (s := fun t => bt s (12 + t)) (f := fun t => h 120 (3 * t + 2)) (B := 20) (fun i => bt_01 _ _) (fun i hi => by have := ho.2.2 i hi; show 0 ≤ h 120 (3 * i + 2) ∧ h 120 (3 * i + 2) ≤ 20; omega) (by omega)
  unfold costM
  omega
theorem mostM_rg {h : bg_G} (ho : okM h) (s : Int) : 0 ≤ mostM h s ∧ mostM h s ≤ 1200 := mcM_rg ho _ _
/-- the first of the sets by which least comes -/
def bsF (ok : Nat → Prop) [DecidablePred ok] (v : Nat → Int) : Nat → Nat
  | 0 => 0
  | n + 1 => if (0 < n ∧ ok n) ∧ v n < v (bsF ok v n) then n else bsF ok v n
theorem okS_0 {np nt : Int} (h1 : 0 ≤ np ∧ np ≤ 12) (h2 : 0 ≤ nt ∧ nt ≤ 3) : okS np nt 0 := by
  rw [show np = (np.toNat : Int) by omega, show nt = (nt.toNat : Int) by omega, okS_iff (by omega) (by omega) (by omega)]
  exact ⟨0, 0, Nat.two_pow_pos _, Nat.two_pow_pos _, rfl⟩
def bestM (h : bg_G) (coin : Int) (n : Nat) : Nat := bsF (fun s => okS (h 117 0) (h 119 0) (s : Int) ∧ costM h s ≤ coin) (fun s => mostM h s) n
theorem bestM_ok {h : bg_G} (ho : okM h) (coin : Int) : ∀ n, okS (h 117 0) (h 119 0) (bestM h coin n : Nat) ∧ bestM h coin n ≤ n
  | 0 => ⟨okS_0 ho.1.1 ho.1.2.1, Nat.le_refl _⟩
  | n + 1 => by
    have ih := bestM_ok ho coin n
    unfold bestM bsF
    split
    · rename_i c; exact ⟨c.1.2.1, by omega⟩
    · exact ⟨ih.1, by have := ih.2; unfold bestM at this; omega⟩
theorem s_mbestFor (d n : Nat) (coin : Int) (hc : i32 coin) (h : bg_G) (ho : okM h) (hT : TM h) (hl : lieM h) (Rt : bg_R) (hR : ∀ h' : bg_G, frM h h' → Rt (some (.inl (bestM h coin (2 ^ (12 + (h 119 0).toNat)) : Nat))) (bg_SH n, h')) : bg_Ca bg_MS (d + 5) 146 [vR 115, vI coin] (bg_SH n, h) Rt := by
  have hn := ho.1
  obtain ⟨M, hM⟩ : ∃ M : Nat, M = 2 ^ (12 + (h 119 0).toNat) := ⟨_, rfl⟩
  have hM2 : M ≤ 32768 := by rw [hM]; exact mt_le (by omega)
  have hM1 : 1 ≤ M := by rw [hM]; exact Nat.one_le_two_pow
  rw [← hM] at hR
  refine bg_ca (cd := cd_X9_bestFor) rfl rfl ?_
  intro X hX
  have l1 : ∀ q, q ≤ M → 1 ≤ q → ∀ h' : bg_G, frM h h' → X (4, [oR 115, oI coin, oI (bestM h coin q : Nat), oI (q : Int)], [], (bg_SH n, h'), (0, 0)) := by
    refine lp_up M _ ?_ (fun q hq ih => ?_)
    · intro _ h' hf
      have e118 := hf.1 119 (by omega) (by omega) (by omega) (by omega) (by omega)
      iterate 2 (refine hX _ ?_; conv => whnf)
      refine hX _ ?_; conv => whnf
      try simp (disch := omega) only [bg_w_id, Int.toNat_natCast, rw_land, sh_land, not_true_eq_false]
      refine s_msetMany (d + 3) n h' (by rw [e118]; omega) _ ?_
      rw [e118, ← hM]
      conv => whnf
      refine hX _ ?_; conv => whnf
      refine ⟨fun q9 => ?_, fun q9 => ?_⟩
      · try simp (disch := omega) only [bg_w_id, Int.toNat_natCast, rw_land, sh_land, not_true_eq_false, kc0, kc1, kc2, kc3, kc4, kc5, kc6, kc7, kc8, kc9, kc10, kc11, kc12, kc13, kc14, kc15, kc16, kc17, kc18, kc19, kc20, kc21, kc22, kc23, kc24, kc25, kc26, kc27, kc28, kc29, kc30, kc31, kc32, kc33] at q9
        refine hX _ ?_; conv => whnf
        refine hX _ ?_; conv => whnf
        exact hR h' hf
      · exfalso
        (try simp (disch := omega) only [bg_w_id, Int.toNat_natCast, rw_land, sh_land, not_true_eq_false, kc0, kc1, kc2, kc3, kc4, kc5, kc6, kc7, kc8, kc9, kc10, kc11, kc12, kc13, kc14, kc15, kc16, kc17, kc18, kc19, kc20, kc21, kc22, kc23, kc24, kc25, kc26, kc27, kc28, kc29, kc30, kc31, kc32, kc33] at q9) <;> (omega)
    · intro h1 h' hf
      have e116 := hf.1 117 (by omega) (by omega) (by omega) (by omega) (by omega)
      have e118 := hf.1 119 (by omega) (by omega) (by omega) (by omega) (by omega)
      have ho' := frM_ok hf ho
      have hT' : TM h' := by
        unfold TM
        rw [e116, e118, hf.1 120 (by omega) (by omega) (by omega) (by omega) (by omega)]
        exact hT
      have ih := ih (by omega)
      have es : bestM h coin (q + 1) = if (0 < q ∧ okS (h 117 0) (h 119 0) (q : Int) ∧ costM h q ≤ coin) ∧ mostM h q < mostM h (bestM h coin q : Nat) then q else bestM h coin q := rfl
      rw [es] at ih
      have hb := bestM_ok ho coin q
      have rc := costM_rg ho' q
      have rm1 := mostM_rg ho (q : Int)
      have rm2 := mostM_rg ho (bestM h coin q : Nat)
      by_cases c1 : okS (h 117 0) (h 119 0) (q : Int)
      · iterate 2 (refine hX _ ?_; conv => whnf)
        refine hX _ ?_; conv => whnf
        try simp (disch := omega) only [bg_w_id, Int.toNat_natCast, rw_land, sh_land, not_true_eq_false]
        refine s_msetMany (d + 3) n h' (by rw [e118]; omega) _ ?_
        rw [e118, ← hM]
        conv => whnf
        refine hX _ ?_; conv => whnf
        refine ⟨fun q9 => ?_, fun q9 => ?_⟩
        · exfalso
          (try simp (disch := omega) only [bg_w_id, Int.toNat_natCast, rw_land, sh_land, not_true_eq_false, kc0, kc1, kc2, kc3, kc4, kc5, kc6, kc7, kc8, kc9, kc10, kc11, kc12, kc13, kc14, kc15, kc16, kc17, kc18, kc19, kc20, kc21, kc22, kc23, kc24, kc25, kc26, kc27, kc28, kc29, kc30, kc31, kc32, kc33] at q9) <;> (omega)
        · try simp (disch := omega) only [bg_w_id, Int.toNat_natCast, rw_land, sh_land, not_true_eq_false, kc0, kc1, kc2, kc3, kc4, kc5, kc6, kc7, kc8, kc9, kc10, kc11, kc12, kc13, kc14, kc15, kc16, kc17, kc18, kc19, kc20, kc21, kc22, kc23, kc24, kc25, kc26, kc27, kc28, kc29, kc30, kc31, kc32, kc33] at q9
          iterate 2 (refine hX _ ?_; conv => whnf)
          refine hX _ ?_; conv => whnf
          try simp (disch := omega) only [bg_w_id, Int.toNat_natCast, rw_land, sh_land, not_true_eq_false]
          refine s_ap_t (d + 3) _ _ _ _ (by omega) (by rw [e116, e118]; exact c1) ?_
          conv => whnf
          refine hX _ ?_; conv => whnf
          refine ⟨fun q17 => ?_, fun q17 => ?_⟩
          · exfalso
            (try simp (disch := omega) only [bg_w_id, Int.toNat_natCast, rw_land, sh_land, not_true_eq_false, kc0, kc1, kc2, kc3, kc4, kc5, kc6, kc7, kc8, kc9, kc10, kc11, kc12, kc13, kc14, kc15, kc16, kc17, kc18, kc19, kc20, kc21, kc22, kc23, kc24, kc25, kc26, kc27, kc28, kc29, kc30, kc31, kc32, kc33] at q17) <;> (omega)
          · try simp (disch := omega) only [bg_w_id, Int.toNat_natCast, rw_land, sh_land, not_true_eq_false, kc0, kc1, kc2, kc3, kc4, kc5, kc6, kc7, kc8, kc9, kc10, kc11, kc12, kc13, kc14, kc15, kc16, kc17, kc18, kc19, kc20, kc21, kc22, kc23, kc24, kc25, kc26, kc27, kc28, kc29, kc30, kc31, kc32, kc33] at q17
            iterate 2 (refine hX _ ?_; conv => whnf)
            refine hX _ ?_; conv => whnf
            try simp (disch := omega) only [bg_w_id, Int.toNat_natCast, rw_land, sh_land, not_true_eq_false]
            refine s_mcostOf (d + 2) _ _ _ _ ?_
            rw [show sm 12 (fun i => bt (q : Int) i * h' 118 (7 * i + 4)) + sm 3 (fun t => bt (q : Int) (12 + t) * h' 120 (3 * t + 2)) = costM h q from frM_cost hf q]
            rw [frM_cost hf] at rc
            conv => whnf
            refine hX _ ?_; conv => whnf
            refine hX _ ?_; conv => whnf
            refine ⟨fun q26 => ?_, fun q26 => ?_⟩
            · try simp (disch := omega) only [bg_w_id, Int.toNat_natCast, rw_land, sh_land, not_true_eq_false, kc0, kc1, kc2, kc3, kc4, kc5, kc6, kc7, kc8, kc9, kc10, kc11, kc12, kc13, kc14, kc15, kc16, kc17, kc18, kc19, kc20, kc21, kc22, kc23, kc24, kc25, kc26, kc27, kc28, kc29, kc30, kc31, kc32, kc33] at q26
              iterate 2 (refine hX _ ?_; conv => whnf)
              first
              | (rw [if_neg (by omega)] at ih; exact ih _ hf)
              | (rw [if_neg (by omega)] at ih; exact ih _ hf5)
              | (rw [if_pos ⟨⟨by omega, c1, by omega⟩, by omega⟩] at ih; exact ih _ hf5)
            · try simp (disch := omega) only [bg_w_id, Int.toNat_natCast, rw_land, sh_land, not_true_eq_false, kc0, kc1, kc2, kc3, kc4, kc5, kc6, kc7, kc8, kc9, kc10, kc11, kc12, kc13, kc14, kc15, kc16, kc17, kc18, kc19, kc20, kc21, kc22, kc23, kc24, kc25, kc26, kc27, kc28, kc29, kc30, kc31, kc32, kc33] at q26
              iterate 2 (refine hX _ ?_; conv => whnf)
              refine hX _ ?_; conv => whnf
              try simp (disch := omega) only [bg_w_id, Int.toNat_natCast, rw_land, sh_land, not_true_eq_false]
              refine s_mmostBy d n q h' ho' hf.2.2 (heldM_rg ho' hT' (by omega) (by rw [e116, e118]; exact c1)) _ (fun h2 hf2 => ?_)
              rw [frM_most hf]
              have hf3 := frM_trans hf hf2
              have hT2 : TM h2 := by
                unfold TM
                rw [hf3.1 117 (by omega) (by omega) (by omega) (by omega) (by omega), hf3.1 119 (by omega) (by omega) (by omega) (by omega) (by omega), hf3.1 120 (by omega) (by omega) (by omega) (by omega) (by omega)]
                exact hT
              conv => whnf
              iterate 2 (refine hX _ ?_; conv => whnf)
              refine hX _ ?_; conv => whnf
              try simp (disch := omega) only [bg_w_id, Int.toNat_natCast, rw_land, sh_land, not_true_eq_false]
              refine s_mmostBy d n (bestM h coin q : Nat) h2 (frM_ok hf3 ho) hf2.2.2 (heldM_rg (frM_ok hf3 ho) hT2 (by omega) (by rw [hf3.1 117 (by omega) (by omega) (by omega) (by omega) (by omega), hf3.1 119 (by omega) (by omega) (by omega) (by omega) (by omega)]; exact hb.1)) _ (fun h3 hf4 => ?_)
              rw [frM_most hf3]
              have hf5 := frM_trans hf3 hf4
              conv => whnf
              refine hX _ ?_; conv => whnf
              refine ⟨fun q39 => ?_, fun q39 => ?_⟩
              · try simp (disch := omega) only [bg_w_id, Int.toNat_natCast, rw_land, sh_land, not_true_eq_false, kc0, kc1, kc2, kc3, kc4, kc5, kc6, kc7, kc8, kc9, kc10, kc11, kc12, kc13, kc14, kc15, kc16, kc17, kc18, kc19, kc20, kc21, kc22, kc23, kc24, kc25, kc26, kc27, kc28, kc29, kc30, kc31, kc32, kc33] at q39
                iterate 2 (refine hX _ ?_; conv => whnf)
                first
                | (rw [if_neg (by omega)] at ih; exact ih _ hf)
                | (rw [if_neg (by omega)] at ih; exact ih _ hf5)
                | (rw [if_pos ⟨⟨by omega, c1, by omega⟩, by omega⟩] at ih; exact ih _ hf5)
              · try simp (disch := omega) only [bg_w_id, Int.toNat_natCast, rw_land, sh_land, not_true_eq_false, kc0, kc1, kc2, kc3, kc4, kc5, kc6, kc7, kc8, kc9, kc10, kc11, kc12, kc13, kc14, kc15, kc16, kc17, kc18, kc19, kc20, kc21, kc22, kc23, kc24, kc25, kc26, kc27, kc28, kc29, kc30, kc31, kc32, kc33] at q39
                iterate 4 (refine hX _ ?_; conv => whnf)
                first
                | (rw [if_neg (by omega)] at ih; exact ih _ hf)
                | (rw [if_neg (by omega)] at ih; exact ih _ hf5)
                | (rw [if_pos ⟨⟨by omega, c1, by omega⟩, by omega⟩] at ih; exact ih _ hf5)
      · iterate 2 (refine hX _ ?_; conv => whnf)
        refine hX _ ?_; conv => whnf
        try simp (disch := omega) only [bg_w_id, Int.toNat_natCast, rw_land, sh_land, not_true_eq_false]
        refine s_msetMany (d + 3) n h' (by rw [e118]; omega) _ ?_
        rw [e118, ← hM]
        conv => whnf
        refine hX _ ?_; conv => whnf
        refine ⟨fun q9 => ?_, fun q9 => ?_⟩
        · exfalso
          (try simp (disch := omega) only [bg_w_id, Int.toNat_natCast, rw_land, sh_land, not_true_eq_false, kc0, kc1, kc2, kc3, kc4, kc5, kc6, kc7, kc8, kc9, kc10, kc11, kc12, kc13, kc14, kc15, kc16, kc17, kc18, kc19, kc20, kc21, kc22, kc23, kc24, kc25, kc26, kc27, kc28, kc29, kc30, kc31, kc32, kc33] at q9) <;> (omega)
        · try simp (disch := omega) only [bg_w_id, Int.toNat_natCast, rw_land, sh_land, not_true_eq_false, kc0, kc1, kc2, kc3, kc4, kc5, kc6, kc7, kc8, kc9, kc10, kc11, kc12, kc13, kc14, kc15, kc16, kc17, kc18, kc19, kc20, kc21, kc22, kc23, kc24, kc25, kc26, kc27, kc28, kc29, kc30, kc31, kc32, kc33] at q9
          iterate 2 (refine hX _ ?_; conv => whnf)
          refine hX _ ?_; conv => whnf
          try simp (disch := omega) only [bg_w_id, Int.toNat_natCast, rw_land, sh_land, not_true_eq_false]
          refine s_ap_f (d + 3) _ _ _ _ (by omega) (by rw [e116, e118]; exact c1) ?_
          conv => whnf
          refine hX _ ?_; conv => whnf
          refine ⟨fun q17 => ?_, fun q17 => ?_⟩
          · try simp (disch := omega) only [bg_w_id, Int.toNat_natCast, rw_land, sh_land, not_true_eq_false, kc0, kc1, kc2, kc3, kc4, kc5, kc6, kc7, kc8, kc9, kc10, kc11, kc12, kc13, kc14, kc15, kc16, kc17, kc18, kc19, kc20, kc21, kc22, kc23, kc24, kc25, kc26, kc27, kc28, kc29, kc30, kc31, kc32, kc33] at q17
            iterate 2 (refine hX _ ?_; conv => whnf)
            rw [if_neg (fun e => c1 e.1.2.1)] at ih
            exact ih _ hf
          · exfalso
            (try simp (disch := omega) only [bg_w_id, Int.toNat_natCast, rw_land, sh_land, not_true_eq_false, kc0, kc1, kc2, kc3, kc4, kc5, kc6, kc7, kc8, kc9, kc10, kc11, kc12, kc13, kc14, kc15, kc16, kc17, kc18, kc19, kc20, kc21, kc22, kc23, kc24, kc25, kc26, kc27, kc28, kc29, kc30, kc31, kc32, kc33] at q17) <;> (omega)
  iterate 4 (refine hX _ ?_; conv => whnf)
  exact l1 1 (by omega) (by omega) h (frM_refl hl)
