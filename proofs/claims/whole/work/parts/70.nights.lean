def cv (v : Int) : Int := if v = 1000000 then 2147483647 else v
theorem night_eq {told : Nat → Bool} {may : Nat → Nat → Bool} {M co : Nat → Int} {al : Bool} {bc : Nat → Nat → Int} {dd : Int} (hM : ∀ g, g < 4 → told g = true → 0 ≤ M g ∧ M g ≤ 1200) (hco : ∀ g, g < 4 → co g = if told g then M g else 2147483647) (hmay : ∀ g k, g < 4 → k < 4 → told g = true → may g k = decide (told k = true ∧ (al = true ∨ k ≠ g) ∧ bc g k ≤ dd)) : ∀ t, t ≤ 7 → ∀ g, g < 4 → csT al bc co dd t g = cv (ntS told may M t g) ∧ (ntS told may M t g = 1000000 ∨ (told g = true ∧ 0 ≤ ntS told may M t g ∧ ntS told may M t g ≤ 1200 * ((t : Int) + 1)))
  | 0, _, g, hg => by
    show co g = cv (if told g then M g else 1000000) ∧ ((if told g then M g else 1000000) = 1000000 ∨ (told g = true ∧ 0 ≤ (if told g then M g else 1000000) ∧ (if told g then M g else 1000000) ≤ _))
    rw [hco g hg]
    by_cases c : told g = true
    · have := hM g hg c
      rw [if_pos c, if_pos c]
      unfold cv
      rw [if_neg (by omega)]
      exact ⟨rfl, Or.inr ⟨c, this.1, by omega⟩⟩
    · rw [if_neg c, if_neg c]
      exact ⟨rfl, Or.inl rfl⟩
  | t + 1, ht, g, hg => by
    have ih := night_eq hM hco hmay t (by omega)
    have en : ntS told may M (t + 1) g = if told g then ntF may M (ntS told may M t) g 4 else 1000000 := rfl
    rw [csT_s, en]
    by_cases c : told g = true
    · have hm := hM g hg c
      have ec := hco g hg
      rw [if_pos c] at ec
      rw [if_pos c]
      -- both folds
      have key : ∀ n, n ≤ 4 → (lbR al (bc g) (csT al bc co dd t) dd g n = 2147483647 ∧ ntF may M (ntS told may M t) g n = 1000000) ∨ (lbR al (bc g) (csT al bc co dd t) dd g n + M g = ntF may M (ntS told may M t) g n ∧ 0 ≤ lbR al (bc g) (csT al bc co dd t) dd g n ∧ lbR al (bc g) (csT al bc co dd t) dd g n ≤ 1200 * ((t : Int) + 1)) := by
        intro n
        induction n with
        | zero => intro _; exact Or.inl ⟨rfl, rfl⟩
        | succ n ihn =>
          intro hn
          have ihn := ihn (by omega)
          have ik := ih n (by omega)
          have es : ntF may M (ntS told may M t) g (n + 1) = if ntV may M (ntS told may M t) g n < ntF may M (ntS told may M t) g n then ntV may M (ntS told may M t) g n else ntF may M (ntS told may M t) g n := rfl
          have mk := hmay g n hg (by omega) c
          have i1 := ik.1
          have i2 := ik.2
          unfold cv at i1
          have eV : ntV may M (ntS told may M t) g n = if told n = true ∧ ((al = true ∨ n ≠ g) ∧ bc g n ≤ dd) then ntS told may M t n + M g else 1000000 := by
            unfold ntV
            rw [mk]
            by_cases kk : told n = true ∧ ((al = true ∨ n ≠ g) ∧ bc g n ≤ dd)
            · rw [if_pos kk, if_pos (decide_eq_true kk)]
            · rw [if_neg kk, decide_eq_false kk]
              rfl
          rw [lbR_s, es]
          generalize ntV may M (ntS told may M t) g n = V at *
          generalize lbR al (bc g) (csT al bc co dd t) dd g n = Lb at *
          generalize ntF may M (ntS told may M t) g n = A at *
          generalize ntS told may M t n = S at *
          generalize csT al bc co dd t n = C at *
          by_cases k2 : (al = true ∨ n ≠ g) ∧ bc g n ≤ dd
          · rw [if_pos k2]
            by_cases k1 : told n = true
            · rw [if_pos ⟨k1, k2⟩] at eV
              by_cases k3 : S = 1000000
              · rw [if_pos k3] at i1
                split <;> split <;> omega
              · rw [if_neg k3] at i1
                have i3 : 0 ≤ S ∧ S ≤ 1200 * ((t : Int) + 1) := by
                  rcases i2 with w | ⟨_, w⟩
                  · exact absurd w k3
                  · exact w
                split <;> split <;> omega
            · rw [if_neg (fun w => k1 w.1)] at eV
              have k3 : S = 1000000 := by
                rcases i2 with w | ⟨w, _⟩
                · exact w
                · exact absurd w k1
              rw [if_pos k3] at i1
              split <;> split <;> omega
          · rw [if_neg k2]
            rw [if_neg (fun w => k2 w.2)] at eV
            split <;> omega
      rcases key 4 (by omega) with ⟨x, y⟩ | ⟨x, y, z⟩
      · rw [x, if_pos (Or.inl rfl), y]
        exact ⟨rfl, Or.inl rfl⟩
      · rw [if_neg (by omega), ec, ← x]
        unfold cv
        rw [if_neg (by omega)]
        exact ⟨rfl, Or.inr ⟨c, by omega, by omega⟩⟩
    · have ec := hco g hg
      rw [if_neg c] at ec
      rw [if_pos (Or.inr ec), if_neg c]
      exact ⟨rfl, Or.inl rfl⟩
theorem min_eq {cs S : Nat → Int} : ∀ n, (∀ g, g < n → cs g = cv (S g) ∧ (S g = 1000000 ∨ (0 ≤ S g ∧ S g < 1000000))) → (mnF cs n = 2147483647 ∧ ntB S n = 1000000) ∨ (mnF cs n = ntB S n ∧ 0 ≤ ntB S n ∧ ntB S n < 1000000)
  | 0, _ => Or.inl ⟨rfl, rfl⟩
  | n + 1, h => by
    have ih := min_eq (cs := cs) (S := S) n (fun g hg => h g (by omega))
    have hn := h n (by omega)
    have e1 : mnF cs (n + 1) = if cs n < mnF cs n then cs n else mnF cs n := rfl
    have e2 : ntB S (n + 1) = if S n < ntB S n then S n else ntB S n := rfl
    rw [e1, e2]
    unfold cv at hn
    by_cases c : S n = 1000000
    · rw [if_pos c] at hn
      rw [hn.1, c]
      rcases ih with ⟨x, y⟩ | ⟨x, y, z⟩
      · left
        rw [x, y]
        exact ⟨by omega, by omega⟩
      · right
        rw [x, if_neg (by omega), if_neg (by omega)]
        exact ⟨rfl, y, z⟩
    · rw [if_neg c] at hn
      rw [hn.1]
      have h2 : 0 ≤ S n ∧ S n < 1000000 := by omega
      right
      rcases ih with ⟨x, y⟩ | ⟨x, y, z⟩
      · rw [x, y, if_pos (by omega), if_pos (by omega)]
        exact ⟨rfl, h2⟩
      · rw [x]
        split
        · exact ⟨rfl, h2⟩
        · exact ⟨rfl, y, z⟩
theorem s_begin (d n g : Nat) (hg : g < 4) (p c : Int) (h : bg_G) (Rt : bg_R) (hR : Rt none (bg_SH n, bg_up (bg_up (bg_up h 69 g p) 70 g c) 71 g c)) : bg_Ca bg_MS (d + 1) 59 [vR 68, vI g, vI p, vI c] (bg_SH n, h) Rt := by
  refine bg_ca (cd := cd_X5_begin) rfl rfl ?_
  intro X hX
  refine hX _ ?_; conv => whnf
  refine hX _ ?_; conv => whnf
  refine ⟨fun q1 => ?_, fun q1 => ?_⟩
  · exfalso
    (try simp (disch := omega) only [bg_w_id, Int.toNat_natCast, rw_land, sh_land, not_true_eq_false, kc0, kc1, kc2, kc3, kc4, kc5, kc6, kc7, kc8, kc9, kc10, kc11, kc12, kc13, kc14, kc15, kc16, kc17, kc18, kc19, kc20, kc21, kc22, kc23, kc24, kc25, kc26, kc27, kc28, kc29, kc30, kc31, kc32, kc33] at q1) <;> (omega)
  · try simp (disch := omega) only [bg_w_id, Int.toNat_natCast, rw_land, sh_land, not_true_eq_false, kc0, kc1, kc2, kc3, kc4, kc5, kc6, kc7, kc8, kc9, kc10, kc11, kc12, kc13, kc14, kc15, kc16, kc17, kc18, kc19, kc20, kc21, kc22, kc23, kc24, kc25, kc26, kc27, kc28, kc29, kc30, kc31, kc32, kc33] at q1
    iterate 2 (refine hX _ ?_; conv => whnf)
    refine hX _ ?_; conv => whnf
    refine ⟨fun q6 => ?_, fun q6 => ?_⟩
    · exfalso
      (try simp (disch := omega) only [bg_w_id, Int.toNat_natCast, rw_land, sh_land, not_true_eq_false, kc0, kc1, kc2, kc3, kc4, kc5, kc6, kc7, kc8, kc9, kc10, kc11, kc12, kc13, kc14, kc15, kc16, kc17, kc18, kc19, kc20, kc21, kc22, kc23, kc24, kc25, kc26, kc27, kc28, kc29, kc30, kc31, kc32, kc33] at q6) <;> (omega)
    · try simp (disch := omega) only [bg_w_id, Int.toNat_natCast, rw_land, sh_land, not_true_eq_false, kc0, kc1, kc2, kc3, kc4, kc5, kc6, kc7, kc8, kc9, kc10, kc11, kc12, kc13, kc14, kc15, kc16, kc17, kc18, kc19, kc20, kc21, kc22, kc23, kc24, kc25, kc26, kc27, kc28, kc29, kc30, kc31, kc32, kc33] at q6
      iterate 4 (refine hX _ ?_; conv => whnf)
      refine hX _ ?_; conv => whnf
      try (simp (disch := omega) only [bg_w_id, Int.toNat_natCast, rw_land, sh_land, not_true_eq_false]; try conv => whnf)
      refine ⟨by first | omega | (simp (disch := omega) only [bg_w_id, Int.toNat_natCast, rw_land, sh_land, not_true_eq_false]; omega), ?_⟩
      iterate 4 (refine hX _ ?_; conv => whnf)
      refine hX _ ?_; conv => whnf
      try (simp (disch := omega) only [bg_w_id, Int.toNat_natCast, rw_land, sh_land, not_true_eq_false]; try conv => whnf)
      refine ⟨by first | omega | (simp (disch := omega) only [bg_w_id, Int.toNat_natCast, rw_land, sh_land, not_true_eq_false]; omega), ?_⟩
      iterate 4 (refine hX _ ?_; conv => whnf)
      refine hX _ ?_; conv => whnf
      try (simp (disch := omega) only [bg_w_id, Int.toNat_natCast, rw_land, sh_land, not_true_eq_false]; try conv => whnf)
      refine ⟨by first | omega | (simp (disch := omega) only [bg_w_id, Int.toNat_natCast, rw_land, sh_land, not_true_eq_false]; omega), ?_⟩
      refine hX _ ?_; conv => whnf
      exact hR
theorem s_cnights (d n : Nat) (m dd : Int) (hm : i32 m) (hd : i32 dd) (h : bg_G) (hI : INV h) (Rt : bg_R) (hR1 : (1 ≤ m ∧ m ≤ 8) → (0 ≤ dd ∧ dd ≤ 15) → tSet (fun k => h 122 k) ≠ 0 → ∀ h' : bg_G, (∀ k, k ≠ 38 → k ≠ 40 → k ≠ 69 → k ≠ 70 → k ≠ 71 → k ≠ 72 → h' k = h k) → Rt (some (.inl (nightA h m dd))) (bg_SH n, h')) (hR2 : (1 ≤ m ∧ m ≤ 8) → (0 ≤ dd ∧ dd ≤ 15) → tSet (fun k => h 122 k) = 0 → Rt (some (.inl (-2))) (bg_SH n, h)) (hR0 : ¬ ((1 ≤ m ∧ m ≤ 8) ∧ (0 ≤ dd ∧ dd ≤ 15)) → Rt (some (.inl (-1))) (bg_SH n, h)) : bg_Ca bg_MS (d + 5) 104 [vR 2, vI m, vI dd] (bg_SH n, h) Rt := by
  have r := inv_REL hI
  have sv := inv_sv hI
  have lo := lot_rg hI
  have lm := (inv_lot hI).1
  have et : tSet (fun k => h 54 k) = tSet (fun k => h 122 k) := by
    unfold tSet
    have key : ∀ m, m ≤ 4 → stN m (fun k => decide (0 ≤ h 54 k)) = stN m (fun k => decide (0 ≤ h 122 k)) := by
      intro m
      induction m with
      | zero => intro _; rfl
      | succ m ih => intro hm; rw [stN_s, stN_s, ih (by omega), (lo m (by omega)).2.2.1.1]
    exact key 4 (by omega)
  have t16 := tSet_lt (fun k => h 122 k)
  obtain ⟨co, hco⟩ : ∃ co : Nat → Int, co = fun g => if tldM h g then mostM h (h 122 g) else 2147483647 := ⟨_, rfl⟩
  have hco2 : ∀ g, g < 4 → co g = 2147483647 ∨ (0 ≤ co g ∧ co g ≤ 1200) := fun g hg => by
    have eg : co g = if tldM h g then mostM h (h 122 g) else 2147483647 := by rw [hco]
    rw [eg]
    by_cases c : tldM h g = true
    · rw [if_pos c]
      exact Or.inr (mostM_rg r.2.1 _)
    · rw [if_neg c]
      exact Or.inl rfl
  refine bg_ca (cd := cd_X8_nights) rfl rfl ?_
  intro X hX
  by_cases c1 : (1 ≤ m ∧ m ≤ 8) ∧ (0 ≤ dd ∧ dd ≤ 15)
  · by_cases c2 : tSet (fun k => h 122 k) = 0
    · have hR2 := hR2 c1.1 c1.2 c2
      iterate 2 (refine hX _ ?_; conv => whnf)
      refine hX _ ?_; conv => whnf
      refine ⟨fun q2 => ?_, fun q2 => ?_⟩
      · exfalso
        (try simp (disch := omega) only [bg_w_id, Int.toNat_natCast, rw_land, sh_land, not_true_eq_false, kc0, kc1, kc2, kc3, kc4, kc5, kc6, kc7, kc8, kc9, kc10, kc11, kc12, kc13, kc14, kc15, kc16, kc17, kc18, kc19, kc20, kc21, kc22, kc23, kc24, kc25, kc26, kc27, kc28, kc29, kc30, kc31, kc32, kc33] at q2) <;> (omega)
      · try simp (disch := omega) only [bg_w_id, Int.toNat_natCast, rw_land, sh_land, not_true_eq_false, kc0, kc1, kc2, kc3, kc4, kc5, kc6, kc7, kc8, kc9, kc10, kc11, kc12, kc13, kc14, kc15, kc16, kc17, kc18, kc19, kc20, kc21, kc22, kc23, kc24, kc25, kc26, kc27, kc28, kc29, kc30, kc31, kc32, kc33] at q2
        iterate 2 (refine hX _ ?_; conv => whnf)
        refine hX _ ?_; conv => whnf
        refine ⟨fun q8 => ?_, fun q8 => ?_⟩
        · exfalso
          (try simp (disch := omega) only [bg_w_id, Int.toNat_natCast, rw_land, sh_land, not_true_eq_false, kc0, kc1, kc2, kc3, kc4, kc5, kc6, kc7, kc8, kc9, kc10, kc11, kc12, kc13, kc14, kc15, kc16, kc17, kc18, kc19, kc20, kc21, kc22, kc23, kc24, kc25, kc26, kc27, kc28, kc29, kc30, kc31, kc32, kc33] at q8) <;> (omega)
        · try simp (disch := omega) only [bg_w_id, Int.toNat_natCast, rw_land, sh_land, not_true_eq_false, kc0, kc1, kc2, kc3, kc4, kc5, kc6, kc7, kc8, kc9, kc10, kc11, kc12, kc13, kc14, kc15, kc16, kc17, kc18, kc19, kc20, kc21, kc22, kc23, kc24, kc25, kc26, kc27, kc28, kc29, kc30, kc31, kc32, kc33] at q8
          refine hX _ ?_; conv => whnf
          refine hX _ ?_; conv => whnf
          refine ⟨fun q12 => ?_, fun q12 => ?_⟩
          · exfalso
            (try simp (disch := omega) only [bg_w_id, Int.toNat_natCast, rw_land, sh_land, not_true_eq_false, kc0, kc1, kc2, kc3, kc4, kc5, kc6, kc7, kc8, kc9, kc10, kc11, kc12, kc13, kc14, kc15, kc16, kc17, kc18, kc19, kc20, kc21, kc22, kc23, kc24, kc25, kc26, kc27, kc28, kc29, kc30, kc31, kc32, kc33] at q12) <;> (omega)
          · try simp (disch := omega) only [bg_w_id, Int.toNat_natCast, rw_land, sh_land, not_true_eq_false, kc0, kc1, kc2, kc3, kc4, kc5, kc6, kc7, kc8, kc9, kc10, kc11, kc12, kc13, kc14, kc15, kc16, kc17, kc18, kc19, kc20, kc21, kc22, kc23, kc24, kc25, kc26, kc27, kc28, kc29, kc30, kc31, kc32, kc33] at q12
            iterate 2 (refine hX _ ?_; conv => whnf)
            refine hX _ ?_; conv => whnf
            refine ⟨fun q18 => ?_, fun q18 => ?_⟩
            · try simp (disch := omega) only [bg_w_id, Int.toNat_natCast, rw_land, sh_land, not_true_eq_false, kc0, kc1, kc2, kc3, kc4, kc5, kc6, kc7, kc8, kc9, kc10, kc11, kc12, kc13, kc14, kc15, kc16, kc17, kc18, kc19, kc20, kc21, kc22, kc23, kc24, kc25, kc26, kc27, kc28, kc29, kc30, kc31, kc32, kc33] at q18
              iterate 2 (refine hX _ ?_; conv => whnf)
              refine hX _ ?_; conv => whnf
              try simp (disch := omega) only [bg_w_id, Int.toNat_natCast, rw_land, sh_land, not_true_eq_false]
              refine s_toldG (d + 2) n h (fun k hk => (lo k hk).1) _ ?_
              rw [et, c2]
              conv => whnf
              refine hX _ ?_; conv => whnf
              refine ⟨fun q30 => ?_, fun q30 => ?_⟩
              · exfalso
                (try simp (disch := omega) only [bg_w_id, Int.toNat_natCast, rw_land, sh_land, not_true_eq_false, kc0, kc1, kc2, kc3, kc4, kc5, kc6, kc7, kc8, kc9, kc10, kc11, kc12, kc13, kc14, kc15, kc16, kc17, kc18, kc19, kc20, kc21, kc22, kc23, kc24, kc25, kc26, kc27, kc28, kc29, kc30, kc31, kc32, kc33] at q30) <;> (omega)
              · try simp (disch := omega) only [bg_w_id, Int.toNat_natCast, rw_land, sh_land, not_true_eq_false, kc0, kc1, kc2, kc3, kc4, kc5, kc6, kc7, kc8, kc9, kc10, kc11, kc12, kc13, kc14, kc15, kc16, kc17, kc18, kc19, kc20, kc21, kc22, kc23, kc24, kc25, kc26, kc27, kc28, kc29, kc30, kc31, kc32, kc33] at q30
                refine hX _ ?_; conv => whnf
                refine hX _ ?_; conv => whnf
                exact hR2
            · exfalso
              (try simp (disch := omega) only [bg_w_id, Int.toNat_natCast, rw_land, sh_land, not_true_eq_false, kc0, kc1, kc2, kc3, kc4, kc5, kc6, kc7, kc8, kc9, kc10, kc11, kc12, kc13, kc14, kc15, kc16, kc17, kc18, kc19, kc20, kc21, kc22, kc23, kc24, kc25, kc26, kc27, kc28, kc29, kc30, kc31, kc32, kc33] at q18) <;> (omega)
    · have hR1 := hR1 c1.1 c1.2 c2
      obtain ⟨u, rfl⟩ : ∃ u : Nat, m = u := ⟨m.toNat, by omega⟩
      obtain ⟨al, hal⟩ : ∃ al : Bool, al = decide (pc 15 (tSet (fun k => h 122 k)) = 1) := ⟨_, rfl⟩
      -- the answer
      have ans : nightA h u dd = if mnF (csT al (fun g k => bitc (bg_xor (h 54 k) (h 54 g))) co dd (u - 1)) 4 = 2147483647 then -4 else mnF (csT al (fun g k => bitc (bg_xor (h 54 k) (h 54 g))) co dd (u - 1)) 4 := by
        have ne := night_eq (told := tldM h) (may := mayM h dd) (M := fun g => mostM h (h 122 g)) (co := co) (al := al) (bc := fun g k => bitc (bg_xor (h 54 k) (h 54 g))) (dd := dd) (fun g hg _ => mostM_rg r.2.1 _) (fun g hg => by rw [hco]) (fun g k hg hk tg => by
          unfold mayM
          have tg : 0 ≤ h 122 g := by unfold tldM at tg; simpa using tg
          have lg := lo g hg
          have lk := lo k hk
          by_cases tk : 0 ≤ h 122 k
          · have b1 := (lm g hg).1
            have b2 := (lm k hk).1
            obtain ⟨x, hx⟩ : ∃ x : Nat, h 122 g = x := ⟨(h 122 g).toNat, by omega⟩
            obtain ⟨y, hy⟩ : ∃ y : Nat, h 122 k = y := ⟨(h 122 k).toNat, by omega⟩
            have hx2 : x < 2 ^ 15 := by rcases b1 with e | e <;> omega
            have hy2 : y < 2 ^ 15 := by rcases b2 with e | e <;> omega
            have ebx : bitc (bg_xor (h 54 k) (h 54 g)) = (pc 15 (x ^^^ y) : Nat) := by
              rw [lk.2.2.1.1, lg.2.2.1.1, hx, hy, bn_xor (by omega) (by omega), bitc_pc (Nat.xor_lt_two_pow hy2 hx2), Nat.xor_comm]
            show decide _ = decide (tldM h k = true ∧ (al = true ∨ k ≠ g) ∧ bitc (bg_xor (h 54 k) (h 54 g)) ≤ dd)
            rw [ebx, hx, hy, hal]
            unfold tldM
            rw [hy]
            simp only [Int.toNat_natCast, decide_eq_true_eq]
            refine decide_eq_decide.2 ⟨fun ⟨a, b, c⟩ => ⟨a, b.symm, c⟩, fun ⟨a, b, c⟩ => ⟨a, b.symm, c⟩⟩
          · rw [decide_eq_false (fun x => tk x.1)]
            symm
            refine decide_eq_false (fun x => tk ?_)
            have := x.1
            unfold tldM at this
            simpa using this) (u - 1) (by omega)
        have me := min_eq (cs := csT al (fun g k => bitc (bg_xor (h 54 k) (h 54 g))) co dd (u - 1)) (S := ntS (tldM h) (mayM h dd) (fun g => mostM h (h 122 g)) (u - 1)) 4 (fun g hg => ⟨(ne g hg).1, by rcases (ne g hg).2 with x | ⟨_, x, y⟩; exact Or.inl x; exact Or.inr ⟨x, by omega⟩⟩)
        unfold nightA
        rw [Int.toNat_natCast]
        rcases me with ⟨x, y⟩ | ⟨x, y, z⟩
        · rw [x, y, if_neg (by omega), if_pos rfl]
        · rw [x, if_pos z, if_neg (by omega)]
      rw [ans] at hR1
      have rmn : ∀ (A : Nat → Int), (∀ g, g < 4 → A g = 2147483647 ∨ (0 ≤ A g ∧ A g ≤ 10000)) → 0 ≤ mnF A 4 ∧ mnF A 4 ≤ 2147483647 := by
        intro A hA
        have a0 := hA 0 (by omega)
        have a1 := hA 1 (by omega)
        have a2 := hA 2 (by omega)
        have a3 := hA 3 (by omega)
        have key : ∀ q, q ≤ 4 → 0 ≤ mnF A q ∧ mnF A q ≤ 2147483647 := by
          intro q
          induction q with
          | zero => intro _; unfold mnF fo; omega
          | succ q ih =>
            intro hq
            have ih := ih (by omega)
            have := hA q (by omega)
            show 0 ≤ (if A q < mnF A q then A q else mnF A q) ∧ (if A q < mnF A q then A q else mnF A q) ≤ 2147483647
            split <;> omega
        exact key 4 (by omega)
      have rmc := rmn (csT al (fun g k => bitc (bg_xor (h 54 k) (h 54 g))) co dd (u - 1)) (fun g hg => by have := csT_rg (al := al) (bc := fun g k => bitc (bg_xor (h 54 k) (h 54 g))) (dd := dd) hco2 (u - 1) g hg; omega)
      obtain ⟨sumv, hsumv⟩ : ∃ sumv : Int, sumv = mnF (csT al (fun g k => bitc (bg_xor (h 54 k) (h 54 g))) co dd (u - 1)) 4 := ⟨_, rfl⟩
      rw [← hsumv] at hR1 rmc
      have l1 : ∀ g, g ≤ 4 → ∀ (h' : bg_G) (j4 : Option bg_V), (∀ k, k ≠ 38 → k ≠ 40 → k ≠ 69 → k ≠ 70 → k ≠ 71 → h' k = h k) → (∀ g' : Nat, g' < g → h' 69 g' = h 54 g' ∧ h' 70 g' = co g' ∧ h' 71 g' = co g') → X (38, [oR 2, oI (u : Int), oI dd, oI (g : Int), j4], [], (bg_SH n, h'), (0, 0)) := by
        refine lp_up 4 _ ?_ (fun g hg ih => ?_)
        · intro h' j4 f1 f2
          have e53 : h' 54 = h 54 := f1 54 (by omega) (by omega) (by omega) (by omega) (by omega)
          have ebc : bitc ((tSet (fun k => h 122 k) : Nat) : Int) = (pc 15 (tSet (fun k => h 122 k)) : Nat) := bitc_pc (by omega)
          have goS : ∀ (v : Int), v = (if al then 1 else 0) → bg_Ca bg_MS (d + 4) 60 [vR 68, vI u, vI dd, vI v] (bg_SH n, h') (fun r H' => X (117, [oR 2, oI (u : Int), oI dd, oI ((4 : Nat) : Int), j4], bg_push r [], H', (0, 0))) := by
            intro v ev
            subst ev
            refine s_leastSum (d + 1) n u (by omega) al dd c1.2 (fun k => h 54 k) co hco2 h' f2 _ (fun h2 g1 => ?_)
            have hR1 := hR1 h2 (fun k a1 a2 a3 a4 a5 a6 => by rw [g1 k a5 a6]; exact f1 k a1 a2 a3 a4 a5)
            rw [← hsumv]
            iterate 3 (refine hX _ ?_; conv => whnf)
            refine hX _ ?_; conv => whnf
            refine ⟨fun q122 => ?_, fun q122 => ?_⟩
            · try simp (disch := omega) only [bg_w_id, Int.toNat_natCast, rw_land, sh_land, not_true_eq_false, kc0, kc1, kc2, kc3, kc4, kc5, kc6, kc7, kc8, kc9, kc10, kc11, kc12, kc13, kc14, kc15, kc16, kc17, kc18, kc19, kc20, kc21, kc22, kc23, kc24, kc25, kc26, kc27, kc28, kc29, kc30, kc31, kc32, kc33] at q122
              refine hX _ ?_; conv => whnf
              refine hX _ ?_; conv => whnf
              first
              | (rw [if_pos (by omega)] at hR1; exact hR1)
              | (rw [if_neg (by omega)] at hR1; exact hR1)
            · try simp (disch := omega) only [bg_w_id, Int.toNat_natCast, rw_land, sh_land, not_true_eq_false, kc0, kc1, kc2, kc3, kc4, kc5, kc6, kc7, kc8, kc9, kc10, kc11, kc12, kc13, kc14, kc15, kc16, kc17, kc18, kc19, kc20, kc21, kc22, kc23, kc24, kc25, kc26, kc27, kc28, kc29, kc30, kc31, kc32, kc33] at q122
              iterate 2 (refine hX _ ?_; conv => whnf)
              refine hX _ ?_; conv => whnf
              first
              | (rw [if_pos (by omega)] at hR1; exact hR1)
              | (rw [if_neg (by omega)] at hR1; exact hR1)
          by_cases c3 : pc 15 (tSet (fun k => h 122 k)) = 1
          · have av : al = true := by rw [hal]; simpa using c3
            iterate 2 (refine hX _ ?_; conv => whnf)
            refine hX _ ?_; conv => whnf
            refine ⟨fun q40 => ?_, fun q40 => ?_⟩
            · try simp (disch := omega) only [bg_w_id, Int.toNat_natCast, rw_land, sh_land, not_true_eq_false, kc0, kc1, kc2, kc3, kc4, kc5, kc6, kc7, kc8, kc9, kc10, kc11, kc12, kc13, kc14, kc15, kc16, kc17, kc18, kc19, kc20, kc21, kc22, kc23, kc24, kc25, kc26, kc27, kc28, kc29, kc30, kc31, kc32, kc33] at q40
              iterate 6 (refine hX _ ?_; conv => whnf)
              refine hX _ ?_; conv => whnf
              try simp (disch := omega) only [bg_w_id, Int.toNat_natCast, rw_land, sh_land, not_true_eq_false]
              refine s_toldG (d + 2) n h' (fun k hk => by rw [e53]; exact (lo k hk).1) _ ?_
              rw [e53, et]
              conv => whnf
              refine hX _ ?_; conv => whnf
              try simp (disch := omega) only [bg_w_id, Int.toNat_natCast, rw_land, sh_land, not_true_eq_false]
              refine s_bitCount (d + 3) _ _ _ ?_
              rw [ebc, c3]
              conv => whnf
              refine hX _ ?_; conv => whnf
              refine hX _ ?_; conv => whnf
              refine ⟨fun q106 => ?_, fun q106 => ?_⟩
              · exfalso
                (try simp (disch := omega) only [bg_w_id, Int.toNat_natCast, rw_land, sh_land, not_true_eq_false, kc0, kc1, kc2, kc3, kc4, kc5, kc6, kc7, kc8, kc9, kc10, kc11, kc12, kc13, kc14, kc15, kc16, kc17, kc18, kc19, kc20, kc21, kc22, kc23, kc24, kc25, kc26, kc27, kc28, kc29, kc30, kc31, kc32, kc33] at q106) <;> (omega)
              · try simp (disch := omega) only [bg_w_id, Int.toNat_natCast, rw_land, sh_land, not_true_eq_false, kc0, kc1, kc2, kc3, kc4, kc5, kc6, kc7, kc8, kc9, kc10, kc11, kc12, kc13, kc14, kc15, kc16, kc17, kc18, kc19, kc20, kc21, kc22, kc23, kc24, kc25, kc26, kc27, kc28, kc29, kc30, kc31, kc32, kc33] at q106
                iterate 2 (refine hX _ ?_; conv => whnf)
                refine hX _ ?_; conv => whnf
                exact goS 1 (by rw [av]; rfl)
            · exfalso
              (try simp (disch := omega) only [bg_w_id, Int.toNat_natCast, rw_land, sh_land, not_true_eq_false, kc0, kc1, kc2, kc3, kc4, kc5, kc6, kc7, kc8, kc9, kc10, kc11, kc12, kc13, kc14, kc15, kc16, kc17, kc18, kc19, kc20, kc21, kc22, kc23, kc24, kc25, kc26, kc27, kc28, kc29, kc30, kc31, kc32, kc33] at q40) <;> (omega)
          · have av : al = false := by rw [hal]; simpa using c3
            have pl := pc_le 15 (tSet (fun k => h 122 k))
            iterate 2 (refine hX _ ?_; conv => whnf)
            refine hX _ ?_; conv => whnf
            refine ⟨fun q40 => ?_, fun q40 => ?_⟩
            · try simp (disch := omega) only [bg_w_id, Int.toNat_natCast, rw_land, sh_land, not_true_eq_false, kc0, kc1, kc2, kc3, kc4, kc5, kc6, kc7, kc8, kc9, kc10, kc11, kc12, kc13, kc14, kc15, kc16, kc17, kc18, kc19, kc20, kc21, kc22, kc23, kc24, kc25, kc26, kc27, kc28, kc29, kc30, kc31, kc32, kc33] at q40
              iterate 6 (refine hX _ ?_; conv => whnf)
              refine hX _ ?_; conv => whnf
              try simp (disch := omega) only [bg_w_id, Int.toNat_natCast, rw_land, sh_land, not_true_eq_false]
              refine s_toldG (d + 2) n h' (fun k hk => by rw [e53]; exact (lo k hk).1) _ ?_
              rw [e53, et]
              conv => whnf
              refine hX _ ?_; conv => whnf
              try simp (disch := omega) only [bg_w_id, Int.toNat_natCast, rw_land, sh_land, not_true_eq_false]
              refine s_bitCount (d + 3) _ _ _ ?_
              rw [ebc]
              conv => whnf
              refine hX _ ?_; conv => whnf
              refine hX _ ?_; conv => whnf
              refine ⟨fun q106 => ?_, fun q106 => ?_⟩
              · try simp (disch := omega) only [bg_w_id, Int.toNat_natCast, rw_land, sh_land, not_true_eq_false, kc0, kc1, kc2, kc3, kc4, kc5, kc6, kc7, kc8, kc9, kc10, kc11, kc12, kc13, kc14, kc15, kc16, kc17, kc18, kc19, kc20, kc21, kc22, kc23, kc24, kc25, kc26, kc27, kc28, kc29, kc30, kc31, kc32, kc33] at q106
                refine hX _ ?_; conv => whnf
                refine hX _ ?_; conv => whnf
                exact goS 0 (by rw [av]; rfl)
              · exfalso
                (try simp (disch := omega) only [bg_w_id, Int.toNat_natCast, rw_land, sh_land, not_true_eq_false, kc0, kc1, kc2, kc3, kc4, kc5, kc6, kc7, kc8, kc9, kc10, kc11, kc12, kc13, kc14, kc15, kc16, kc17, kc18, kc19, kc20, kc21, kc22, kc23, kc24, kc25, kc26, kc27, kc28, kc29, kc30, kc31, kc32, kc33] at q106) <;> (omega)
            · exfalso
              (try simp (disch := omega) only [bg_w_id, Int.toNat_natCast, rw_land, sh_land, not_true_eq_false, kc0, kc1, kc2, kc3, kc4, kc5, kc6, kc7, kc8, kc9, kc10, kc11, kc12, kc13, kc14, kc15, kc16, kc17, kc18, kc19, kc20, kc21, kc22, kc23, kc24, kc25, kc26, kc27, kc28, kc29, kc30, kc31, kc32, kc33] at q40) <;> (omega)
        · intro h' j4 f1 f2
          have e53 : h' 54 (g : Int) = h 54 g := by rw [f1 54 (by omega) (by omega) (by omega) (by omega) (by omega)]
          have lg := lo g hg
          have nx : ∀ (h2 : bg_G) (v : Int) (j4 : Option bg_V), v = co g → (∀ k, k ≠ 38 → k ≠ 40 → h2 k = h' k) → X (38, [oR 2, oI (u : Int), oI dd, oI ((g : Int) + 1), j4], [], (bg_SH n, bg_up (bg_up (bg_up h2 69 g (h 54 g)) 70 g v) 71 g v), (0, 0)) := by
            intro h2 v j4 ev g1
            refine ih _ _ (fun k a1 a2 a3 a4 a5 => by rw [bg_up_ne a5, bg_up_ne a4, bg_up_ne a3, g1 k a1 a2]; exact f1 k a1 a2 a3 a4 a5) (fun g' hg' => ?_)
            by_cases e : g' = g
            · subst e
              refine ⟨?_, ?_, ?_⟩
              · rw [bg_up_ne (by omega), bg_up_ne (by omega), bg_up_self]
              · rw [bg_up_ne (by omega), bg_up_self]; exact ev
              · rw [bg_up_self]; exact ev
            · have := f2 g' (by omega)
              refine ⟨?_, ?_, ?_⟩
              · rw [bg_up_ne (by omega), bg_up_ne (by omega), bg_up_nj (by omega), g1 69 (by omega) (by omega)]; exact this.1
              · rw [bg_up_ne (by omega), bg_up_nj (by omega), bg_up_ne (by omega), g1 70 (by omega) (by omega)]; exact this.2.1
              · rw [bg_up_nj (by omega), bg_up_ne (by omega), bg_up_ne (by omega), g1 71 (by omega) (by omega)]; exact this.2.2
          by_cases c3 : h 54 g = -1
          · have ev : (2147483647 : Int) = co g := by
              rw [hco]
              show _ = if tldM h g then mostM h (h 122 g) else 2147483647
              rw [if_neg (by unfold tldM; rw [← lg.2.2.1.1, c3]; simp)]
            iterate 2 (refine hX _ ?_; conv => whnf)
            refine hX _ ?_; conv => whnf
            refine ⟨fun q40 => ?_, fun q40 => ?_⟩
            · exfalso
              (try simp (disch := omega) only [bg_w_id, Int.toNat_natCast, rw_land, sh_land, not_true_eq_false, e53, kc0, kc1, kc2, kc3, kc4, kc5, kc6, kc7, kc8, kc9, kc10, kc11, kc12, kc13, kc14, kc15, kc16, kc17, kc18, kc19, kc20, kc21, kc22, kc23, kc24, kc25, kc26, kc27, kc28, kc29, kc30, kc31, kc32, kc33] at q40) <;> (omega)
            · try simp (disch := omega) only [bg_w_id, Int.toNat_natCast, rw_land, sh_land, not_true_eq_false, e53, kc0, kc1, kc2, kc3, kc4, kc5, kc6, kc7, kc8, kc9, kc10, kc11, kc12, kc13, kc14, kc15, kc16, kc17, kc18, kc19, kc20, kc21, kc22, kc23, kc24, kc25, kc26, kc27, kc28, kc29, kc30, kc31, kc32, kc33] at q40
              iterate 4 (refine hX _ ?_; conv => whnf)
              refine hX _ ?_; conv => whnf
              try (simp (disch := omega) only [bg_w_id, Int.toNat_natCast, rw_land, sh_land, not_true_eq_false, e53]; try conv => whnf)
              refine ⟨by first | omega | (simp (disch := omega) only [bg_w_id, Int.toNat_natCast, rw_land, sh_land, not_true_eq_false, e53]; omega), ?_⟩
              iterate 7 (refine hX _ ?_; conv => whnf)
              refine hX _ ?_; conv => whnf
              refine ⟨fun q64 => ?_, fun q64 => ?_⟩
              · exfalso
                (try simp (disch := omega) only [bg_w_id, Int.toNat_natCast, rw_land, sh_land, not_true_eq_false, e53, kc0, kc1, kc2, kc3, kc4, kc5, kc6, kc7, kc8, kc9, kc10, kc11, kc12, kc13, kc14, kc15, kc16, kc17, kc18, kc19, kc20, kc21, kc22, kc23, kc24, kc25, kc26, kc27, kc28, kc29, kc30, kc31, kc32, kc33] at q64) <;> (omega)
              · try simp (disch := omega) only [bg_w_id, Int.toNat_natCast, rw_land, sh_land, not_true_eq_false, e53, kc0, kc1, kc2, kc3, kc4, kc5, kc6, kc7, kc8, kc9, kc10, kc11, kc12, kc13, kc14, kc15, kc16, kc17, kc18, kc19, kc20, kc21, kc22, kc23, kc24, kc25, kc26, kc27, kc28, kc29, kc30, kc31, kc32, kc33] at q64
                iterate 2 (refine hX _ ?_; conv => whnf)
                refine hX _ ?_; conv => whnf
                try simp (disch := omega) only [bg_w_id, Int.toNat_natCast, rw_land, sh_land, not_true_eq_false, e53]
                refine s_begin (d + 3) n g hg _ _ h' _ ?_
                conv => whnf
                iterate 2 (refine hX _ ?_; conv => whnf)
                exact nx h' _ _ ev (fun _ _ _ => rfl)
          · have os : okS (h 117 0) (h 119 0) (h 54 g) := by
              rcases lg.2.2.2 with x | x
              · exact absurd x c3
              · exact x
            have ok' : okC h' := okC_fr r.1 (fun k a b => f1 k (by omega) (by omega) (by omega) (by omega) (by omega))
            have ev : (mcC h' (heldC h' (h 54 g)) (-1)).1 = co g := by
              rw [hco]
              show _ = if tldM h g then mostM h (h 122 g) else 2147483647
              rw [if_pos (by unfold tldM; rw [← lg.2.2.1.1]; simp; exact os.1)]
              have e1 : mcC h' (heldC h' (h 54 g)) (-1) = mcC h (heldC h (h 54 g)) (-1) := by
                rw [heldC_fr (f1 36 (by omega) (by omega) (by omega) (by omega) (by omega))]
                unfold mcC
                refine wls_congr 64 (fun c hc => ?_)
                unfold cutC
                rw [f1 39 (by omega) (by omega) (by omega) (by omega) (by omega)]
                refine sm_congr (fun p hp => ?_)
                show _ * brC h' _ _ p = _ * brC h _ _ p
                unfold brC
                rw [bearC_fr (f1 (24 + p) (by omega) (by omega) (by omega) (by omega) (by omega))]
              rw [e1, held_eq r (by omega) os, mc_eq r sv (Or.inl ⟨rfl, rfl⟩), ← lg.2.2.1.1]
              rfl
            iterate 2 (refine hX _ ?_; conv => whnf)
            refine hX _ ?_; conv => whnf
            refine ⟨fun q40 => ?_, fun q40 => ?_⟩
            · exfalso
              (try simp (disch := omega) only [bg_w_id, Int.toNat_natCast, rw_land, sh_land, not_true_eq_false, e53, kc0, kc1, kc2, kc3, kc4, kc5, kc6, kc7, kc8, kc9, kc10, kc11, kc12, kc13, kc14, kc15, kc16, kc17, kc18, kc19, kc20, kc21, kc22, kc23, kc24, kc25, kc26, kc27, kc28, kc29, kc30, kc31, kc32, kc33] at q40) <;> (omega)
            · try simp (disch := omega) only [bg_w_id, Int.toNat_natCast, rw_land, sh_land, not_true_eq_false, e53, kc0, kc1, kc2, kc3, kc4, kc5, kc6, kc7, kc8, kc9, kc10, kc11, kc12, kc13, kc14, kc15, kc16, kc17, kc18, kc19, kc20, kc21, kc22, kc23, kc24, kc25, kc26, kc27, kc28, kc29, kc30, kc31, kc32, kc33] at q40
              iterate 4 (refine hX _ ?_; conv => whnf)
              refine hX _ ?_; conv => whnf
              try (simp (disch := omega) only [bg_w_id, Int.toNat_natCast, rw_land, sh_land, not_true_eq_false, e53]; try conv => whnf)
              refine ⟨by first | omega | (simp (disch := omega) only [bg_w_id, Int.toNat_natCast, rw_land, sh_land, not_true_eq_false, e53]; omega), ?_⟩
              iterate 7 (refine hX _ ?_; conv => whnf)
              refine hX _ ?_; conv => whnf
              refine ⟨fun q64 => ?_, fun q64 => ?_⟩
              · try simp (disch := omega) only [bg_w_id, Int.toNat_natCast, rw_land, sh_land, not_true_eq_false, e53, kc0, kc1, kc2, kc3, kc4, kc5, kc6, kc7, kc8, kc9, kc10, kc11, kc12, kc13, kc14, kc15, kc16, kc17, kc18, kc19, kc20, kc21, kc22, kc23, kc24, kc25, kc26, kc27, kc28, kc29, kc30, kc31, kc32, kc33] at q64
                iterate 3 (refine hX _ ?_; conv => whnf)
                refine hX _ ?_; conv => whnf
                try simp (disch := omega) only [bg_w_id, Int.toNat_natCast, rw_land, sh_land, not_true_eq_false, e53]
                refine s_cmostBy d n _ (-1) h' ok' (by omega) _ (fun h2 g1 _ => ?_)
                rw [ev]
                conv => whnf
                refine hX _ ?_; conv => whnf
                try simp (disch := omega) only [bg_w_id, Int.toNat_natCast, rw_land, sh_land, not_true_eq_false, e53]
                refine s_begin (d + 3) n g hg _ _ h2 _ ?_
                conv => whnf
                iterate 2 (refine hX _ ?_; conv => whnf)
                exact nx h2 _ _ rfl g1
              · exfalso
                (try simp (disch := omega) only [bg_w_id, Int.toNat_natCast, rw_land, sh_land, not_true_eq_false, e53, kc0, kc1, kc2, kc3, kc4, kc5, kc6, kc7, kc8, kc9, kc10, kc11, kc12, kc13, kc14, kc15, kc16, kc17, kc18, kc19, kc20, kc21, kc22, kc23, kc24, kc25, kc26, kc27, kc28, kc29, kc30, kc31, kc32, kc33] at q64) <;> (omega)
      iterate 2 (refine hX _ ?_; conv => whnf)
      refine hX _ ?_; conv => whnf
      refine ⟨fun q2 => ?_, fun q2 => ?_⟩
      · exfalso
        (try simp (disch := omega) only [bg_w_id, Int.toNat_natCast, rw_land, sh_land, not_true_eq_false, kc0, kc1, kc2, kc3, kc4, kc5, kc6, kc7, kc8, kc9, kc10, kc11, kc12, kc13, kc14, kc15, kc16, kc17, kc18, kc19, kc20, kc21, kc22, kc23, kc24, kc25, kc26, kc27, kc28, kc29, kc30, kc31, kc32, kc33] at q2) <;> (omega)
      · try simp (disch := omega) only [bg_w_id, Int.toNat_natCast, rw_land, sh_land, not_true_eq_false, kc0, kc1, kc2, kc3, kc4, kc5, kc6, kc7, kc8, kc9, kc10, kc11, kc12, kc13, kc14, kc15, kc16, kc17, kc18, kc19, kc20, kc21, kc22, kc23, kc24, kc25, kc26, kc27, kc28, kc29, kc30, kc31, kc32, kc33] at q2
        iterate 2 (refine hX _ ?_; conv => whnf)
        refine hX _ ?_; conv => whnf
        refine ⟨fun q8 => ?_, fun q8 => ?_⟩
        · exfalso
          (try simp (disch := omega) only [bg_w_id, Int.toNat_natCast, rw_land, sh_land, not_true_eq_false, kc0, kc1, kc2, kc3, kc4, kc5, kc6, kc7, kc8, kc9, kc10, kc11, kc12, kc13, kc14, kc15, kc16, kc17, kc18, kc19, kc20, kc21, kc22, kc23, kc24, kc25, kc26, kc27, kc28, kc29, kc30, kc31, kc32, kc33] at q8) <;> (omega)
        · try simp (disch := omega) only [bg_w_id, Int.toNat_natCast, rw_land, sh_land, not_true_eq_false, kc0, kc1, kc2, kc3, kc4, kc5, kc6, kc7, kc8, kc9, kc10, kc11, kc12, kc13, kc14, kc15, kc16, kc17, kc18, kc19, kc20, kc21, kc22, kc23, kc24, kc25, kc26, kc27, kc28, kc29, kc30, kc31, kc32, kc33] at q8
          refine hX _ ?_; conv => whnf
          refine hX _ ?_; conv => whnf
          refine ⟨fun q12 => ?_, fun q12 => ?_⟩
          · exfalso
            (try simp (disch := omega) only [bg_w_id, Int.toNat_natCast, rw_land, sh_land, not_true_eq_false, kc0, kc1, kc2, kc3, kc4, kc5, kc6, kc7, kc8, kc9, kc10, kc11, kc12, kc13, kc14, kc15, kc16, kc17, kc18, kc19, kc20, kc21, kc22, kc23, kc24, kc25, kc26, kc27, kc28, kc29, kc30, kc31, kc32, kc33] at q12) <;> (omega)
          · try simp (disch := omega) only [bg_w_id, Int.toNat_natCast, rw_land, sh_land, not_true_eq_false, kc0, kc1, kc2, kc3, kc4, kc5, kc6, kc7, kc8, kc9, kc10, kc11, kc12, kc13, kc14, kc15, kc16, kc17, kc18, kc19, kc20, kc21, kc22, kc23, kc24, kc25, kc26, kc27, kc28, kc29, kc30, kc31, kc32, kc33] at q12
            iterate 2 (refine hX _ ?_; conv => whnf)
            refine hX _ ?_; conv => whnf
            refine ⟨fun q18 => ?_, fun q18 => ?_⟩
            · try simp (disch := omega) only [bg_w_id, Int.toNat_natCast, rw_land, sh_land, not_true_eq_false, kc0, kc1, kc2, kc3, kc4, kc5, kc6, kc7, kc8, kc9, kc10, kc11, kc12, kc13, kc14, kc15, kc16, kc17, kc18, kc19, kc20, kc21, kc22, kc23, kc24, kc25, kc26, kc27, kc28, kc29, kc30, kc31, kc32, kc33] at q18
              iterate 2 (refine hX _ ?_; conv => whnf)
              refine hX _ ?_; conv => whnf
              try simp (disch := omega) only [bg_w_id, Int.toNat_natCast, rw_land, sh_land, not_true_eq_false]
              refine s_toldG (d + 2) n h (fun k hk => (lo k hk).1) _ ?_
              rw [et]
              conv => whnf
              refine hX _ ?_; conv => whnf
              refine ⟨fun q30 => ?_, fun q30 => ?_⟩
              · try simp (disch := omega) only [bg_w_id, Int.toNat_natCast, rw_land, sh_land, not_true_eq_false, kc0, kc1, kc2, kc3, kc4, kc5, kc6, kc7, kc8, kc9, kc10, kc11, kc12, kc13, kc14, kc15, kc16, kc17, kc18, kc19, kc20, kc21, kc22, kc23, kc24, kc25, kc26, kc27, kc28, kc29, kc30, kc31, kc32, kc33] at q30
                iterate 2 (refine hX _ ?_; conv => whnf)
                exact l1 0 (by omega) h _ (fun _ _ _ _ _ _ => rfl) (fun g' hg' => absurd hg' (by omega))
              · exfalso
                (try simp (disch := omega) only [bg_w_id, Int.toNat_natCast, rw_land, sh_land, not_true_eq_false, kc0, kc1, kc2, kc3, kc4, kc5, kc6, kc7, kc8, kc9, kc10, kc11, kc12, kc13, kc14, kc15, kc16, kc17, kc18, kc19, kc20, kc21, kc22, kc23, kc24, kc25, kc26, kc27, kc28, kc29, kc30, kc31, kc32, kc33] at q30) <;> (omega)
            · exfalso
              (try simp (disch := omega) only [bg_w_id, Int.toNat_natCast, rw_land, sh_land, not_true_eq_false, kc0, kc1, kc2, kc3, kc4, kc5, kc6, kc7, kc8, kc9, kc10, kc11, kc12, kc13, kc14, kc15, kc16, kc17, kc18, kc19, kc20, kc21, kc22, kc23, kc24, kc25, kc26, kc27, kc28, kc29, kc30, kc31, kc32, kc33] at q18) <;> (omega)
  · iterate 2 (refine hX _ ?_; conv => whnf)
    refine hX _ ?_; conv => whnf
    refine ⟨fun q2 => ?_, fun q2 => ?_⟩
    · try simp (disch := omega) only [bg_w_id, Int.toNat_natCast, rw_land, sh_land, not_true_eq_false, kc0, kc1, kc2, kc3, kc4, kc5, kc6, kc7, kc8, kc9, kc10, kc11, kc12, kc13, kc14, kc15, kc16, kc17, kc18, kc19, kc20, kc21, kc22, kc23, kc24, kc25, kc26, kc27, kc28, kc29, kc30, kc31, kc32, kc33] at q2
      refine hX _ ?_; conv => whnf
      refine hX _ ?_; conv => whnf
      exact hR0 c1
    · try simp (disch := omega) only [bg_w_id, Int.toNat_natCast, rw_land, sh_land, not_true_eq_false, kc0, kc1, kc2, kc3, kc4, kc5, kc6, kc7, kc8, kc9, kc10, kc11, kc12, kc13, kc14, kc15, kc16, kc17, kc18, kc19, kc20, kc21, kc22, kc23, kc24, kc25, kc26, kc27, kc28, kc29, kc30, kc31, kc32, kc33] at q2
      iterate 2 (refine hX _ ?_; conv => whnf)
      refine hX _ ?_; conv => whnf
      refine ⟨fun q8 => ?_, fun q8 => ?_⟩
      · try simp (disch := omega) only [bg_w_id, Int.toNat_natCast, rw_land, sh_land, not_true_eq_false, kc0, kc1, kc2, kc3, kc4, kc5, kc6, kc7, kc8, kc9, kc10, kc11, kc12, kc13, kc14, kc15, kc16, kc17, kc18, kc19, kc20, kc21, kc22, kc23, kc24, kc25, kc26, kc27, kc28, kc29, kc30, kc31, kc32, kc33] at q8
        refine hX _ ?_; conv => whnf
        refine hX _ ?_; conv => whnf
        exact hR0 c1
      · try simp (disch := omega) only [bg_w_id, Int.toNat_natCast, rw_land, sh_land, not_true_eq_false, kc0, kc1, kc2, kc3, kc4, kc5, kc6, kc7, kc8, kc9, kc10, kc11, kc12, kc13, kc14, kc15, kc16, kc17, kc18, kc19, kc20, kc21, kc22, kc23, kc24, kc25, kc26, kc27, kc28, kc29, kc30, kc31, kc32, kc33] at q8
        refine hX _ ?_; conv => whnf
        refine hX _ ?_; conv => whnf
        refine ⟨fun q12 => ?_, fun q12 => ?_⟩
        · try simp (disch := omega) only [bg_w_id, Int.toNat_natCast, rw_land, sh_land, not_true_eq_false, kc0, kc1, kc2, kc3, kc4, kc5, kc6, kc7, kc8, kc9, kc10, kc11, kc12, kc13, kc14, kc15, kc16, kc17, kc18, kc19, kc20, kc21, kc22, kc23, kc24, kc25, kc26, kc27, kc28, kc29, kc30, kc31, kc32, kc33] at q12
          refine hX _ ?_; conv => whnf
          refine hX _ ?_; conv => whnf
          exact hR0 c1
        · try simp (disch := omega) only [bg_w_id, Int.toNat_natCast, rw_land, sh_land, not_true_eq_false, kc0, kc1, kc2, kc3, kc4, kc5, kc6, kc7, kc8, kc9, kc10, kc11, kc12, kc13, kc14, kc15, kc16, kc17, kc18, kc19, kc20, kc21, kc22, kc23, kc24, kc25, kc26, kc27, kc28, kc29, kc30, kc31, kc32, kc33] at q12
          iterate 2 (refine hX _ ?_; conv => whnf)
          refine hX _ ?_; conv => whnf
          refine ⟨fun q18 => ?_, fun q18 => ?_⟩
          · try simp (disch := omega) only [bg_w_id, Int.toNat_natCast, rw_land, sh_land, not_true_eq_false, kc0, kc1, kc2, kc3, kc4, kc5, kc6, kc7, kc8, kc9, kc10, kc11, kc12, kc13, kc14, kc15, kc16, kc17, kc18, kc19, kc20, kc21, kc22, kc23, kc24, kc25, kc26, kc27, kc28, kc29, kc30, kc31, kc32, kc33] at q18
            exfalso; omega
          · try simp (disch := omega) only [bg_w_id, Int.toNat_natCast, rw_land, sh_land, not_true_eq_false, kc0, kc1, kc2, kc3, kc4, kc5, kc6, kc7, kc8, kc9, kc10, kc11, kc12, kc13, kc14, kc15, kc16, kc17, kc18, kc19, kc20, kc21, kc22, kc23, kc24, kc25, kc26, kc27, kc28, kc29, kc30, kc31, kc32, kc33] at q18
            refine hX _ ?_; conv => whnf
            refine hX _ ?_; conv => whnf
            exact hR0 c1
theorem ag_night {h h' : bg_G} (a : ag0 h h') (hn : h 117 0 ≤ 12) (e : h' 122 = h 122) (m dd : Int) : nightA h' m dd = nightA h m dd := by
  have e1 : tldM h' = tldM h := by unfold tldM; rw [e]
  have e2 : mayM h' dd = mayM h dd := by unfold mayM; rw [e]
  unfold nightA
  rw [e1, e2, e, show (fun g : Nat => mostM h' (h 122 g)) = fun g : Nat => mostM h (h 122 g) from funext (fun g => ag_most a hn _)]
theorem op_nights (n : Nat) (h : bg_G) (hI : INV h) (m dd : Int) (hm : i32 m) (hd : i32 dd) : OPI n 5 104 [vR 2, vI m, vI dd] 5 182 [vR 115, vI m, vI dd] h := by
  intro d Rt k
  have r := inv_REL hI
  have hn := r.2.1.1.1
  refine s_cnights d n m dd hm hd h hI Rt (fun c1 c2 c3 h1 f => k _ _ (fun d2 R2 q => ?_)) (fun c1 c2 c3 => k _ _ (fun d2 R2 q => ?_)) (fun c => k _ _ (fun d2 R2 q => ?_))
  · have e : ∀ k, 73 ≤ k → h1 k = h k := fun k hk => f k (by omega) (by omega) (by omega) (by omega) (by omega) (by omega)
    have hI1 : INV h1 := INV_s1 hI ⟨fun k hk => by unfold scr at hk; exact f k (by omega) (by omega) (by omega) (by omega) (by omega) (by omega), fun j hj => by rw [f 3 (by omega) (by omega) (by omega) (by omega) (by omega) (by omega)], fun j _ _ _ _ _ _ _ => by rw [e 115 (by omega)], b012_fr (fun k a b => e k (by omega))⟩ (rgB_fr hI.2.2.1.2.2.2 (e _ (by omega)) (e _ (by omega))) (fun k a b => f k (by omega) (by omega) (by omega) (by omega) (by omega) (by omega)) (by rw [e 115 (by omega)]) (by rw [e 115 (by omega)]) (by rw [e 115 (by omega)]) (e _ (by omega)) (e _ (by omega)) (e _ (by omega))
    have a : ag0 h h1 := ag0_fr (e _ (by omega)) (e _ (by omega)) (e _ (by omega)) (e _ (by omega)) (e _ (by omega))
    refine s_mnights d2 n m dd hm hd h1 (inv_wf hI1) (inv_lot hI1).1 R2 (fun _ _ _ h2 g => ?_) (fun _ _ x => absurd x (by rw [e 122 (by omega)]; exact c3)) (fun x => absurd ⟨c1, c2⟩ x)
    rw [ag_night a hn.2 (e 122 (by omega))]
    refine q h2 ?_
    have rel1 := inv_REL hI1
    have hn1 := rel1.2.1.1.1
    have ge : ∀ k, k ≠ 115 → k ≠ 126 → k ≠ 130 → k ≠ 131 → k ≠ 132 → k ≠ 138 → k ≠ 139 → h2 k = h1 k := g.1
    have a2 : ag0 h1 h2 := ag0_fr (ge _ (by omega) (by omega) (by omega) (by omega) (by omega) (by omega) (by omega)) (ge _ (by omega) (by omega) (by omega) (by omega) (by omega) (by omega) (by omega)) (ge _ (by omega) (by omega) (by omega) (by omega) (by omega) (by omega) (by omega)) (ge _ (by omega) (by omega) (by omega) (by omega) (by omega) (by omega) (by omega)) (ge _ (by omega) (by omega) (by omega) (by omega) (by omega) (by omega) (by omega))
    exact INV_soft hI1 ⟨fun k hk => by unfold scr at hk; exact ge k (by omega) (by omega) (by omega) (by omega) (by omega) (by omega) (by omega), fun j hj => by rw [ge 3 (by omega) (by omega) (by omega) (by omega) (by omega) (by omega) (by omega)], fun j j1 _ _ _ j5 _ _ => g.2.1 j j1 j5, b012_fr (fun k a b => ge k (by omega) (by omega) (by omega) (by omega) (by omega) (by omega) (by omega))⟩ (rgB_fr hI1.2.2.1.2.2.2 (ge _ (by omega) (by omega) (by omega) (by omega) (by omega) (by omega) (by omega)) (ge _ (by omega) (by omega) (by omega) (by omega) (by omega) (by omega) (by omega))) (ag_PL a2 hn1.2 (fun k a b => ge k (by omega) (by omega) (by omega) (by omega) (by omega) (by omega) (by omega)) (inv_PL hI1)) (ag_PP a2 rel1.2.1 (by rw [ge 46 (by omega) (by omega) (by omega) (by omega) (by omega) (by omega) (by omega)]) (by rw [ge 46 (by omega) (by omega) (by omega) (by omega) (by omega) (by omega) (by omega)]) (inv_PP hI1)) g.2.2 (ag_way a2 hn1.2 (g.2.1 14 (by omega) (by omega)) (g.2.1 15 (by omega) (by omega)) (ge _ (by omega) (by omega) (by omega) (by omega) (by omega) (by omega) (by omega)) (ge _ (by omega) (by omega) (by omega) (by omega) (by omega) (by omega) (by omega)) (inv_way hI1))
  · exact s_mnights d2 n m dd hm hd h (inv_wf hI) (inv_lot hI).1 R2 (fun _ _ x => absurd c3 x) (fun _ _ _ => q h hI) (fun x => absurd ⟨c1, c2⟩ x)
  · exact s_mnights d2 n m dd hm hd h (inv_wf hI) (inv_lot hI).1 R2 (fun x y => absurd ⟨x, y⟩ c) (fun x y => absurd ⟨x, y⟩ c) (fun _ => q h hI)
