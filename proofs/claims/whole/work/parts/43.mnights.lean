/-! nights of the model -/
def ntV (may : Nat → Nat → Bool) (M S : Nat → Int) (g k : Nat) : Int := if may g k then S k + M g else 1000000
def ntF (may : Nat → Nat → Bool) (M S : Nat → Int) (g n : Nat) : Int := fo n (fun k a => if ntV may M S g k < a then ntV may M S g k else a) 1000000
def ntS (told : Nat → Bool) (may : Nat → Nat → Bool) (M : Nat → Int) : Nat → Nat → Int
  | 0, g => if told g then M g else 1000000
  | t + 1, g => if told g then ntF may M (ntS told may M t) g 4 else 1000000
def ntB (S : Nat → Int) (n : Nat) : Int := fo n (fun g a => if S g < a then S g else a) 1000000
theorem ntF_rg {may : Nat → Nat → Bool} {M S : Nat → Int} {g : Nat} (hM : 0 ≤ M g) : ∀ n, (∀ k, k < n → 0 ≤ S k) → 0 ≤ ntF may M S g n ∧ ntF may M S g n ≤ 1000000
  | 0, _ => by unfold ntF fo; omega
  | n + 1, h => by
    have ih := ntF_rg (may := may) hM n (fun k hk => h k (by omega))
    have h1 := h n (by omega)
    show 0 ≤ (if ntV may M S g n < ntF may M S g n then ntV may M S g n else ntF may M S g n) ∧ (if ntV may M S g n < ntF may M S g n then ntV may M S g n else ntF may M S g n) ≤ 1000000
    have : 0 ≤ ntV may M S g n := by unfold ntV; split <;> omega
    split <;> omega
theorem ntS_rg {told : Nat → Bool} {may : Nat → Nat → Bool} {M : Nat → Int} (hM : ∀ g, 0 ≤ M g ∧ M g ≤ 1200) : ∀ t g, 0 ≤ ntS told may M t g ∧ ntS told may M t g ≤ 1000000
  | 0, g => by unfold ntS; have := hM g; split <;> omega
  | t + 1, g => by
    unfold ntS
    split
    · exact ntF_rg (hM g).1 4 (fun k _ => (ntS_rg hM t k).1)
    · omega
theorem ntB_rg {S : Nat → Int} : ∀ n, (∀ k, k < n → 0 ≤ S k) → 0 ≤ ntB S n ∧ ntB S n ≤ 1000000
  | 0, _ => by unfold ntB fo; omega
  | n + 1, h => by
    have ih := ntB_rg n (fun k hk => h k (by omega))
    have h1 := h n (by omega)
    show 0 ≤ (if S n < ntB S n then S n else ntB S n) ∧ (if S n < ntB S n then S n else ntB S n) ≤ 1000000
    split <;> omega
def tldM (h : bg_G) (g : Nat) : Bool := decide (0 ≤ h 122 g)
def mayM (h : bg_G) (dd : Int) (g k : Nat) : Bool := decide (0 ≤ h 122 k ∧ (k ≠ g ∨ pc 15 (tSet (fun k => h 122 k)) = 1) ∧ (pc 15 ((h 122 g).toNat ^^^ (h 122 k).toNat) : Int) ≤ dd)
def nightA (h : bg_G) (m dd : Int) : Int := if ntB (ntS (tldM h) (mayM h dd) (fun g => mostM h (h 122 g)) (m.toNat - 1)) 4 < 1000000 then ntB (ntS (tldM h) (mayM h dd) (fun g => mostM h (h 122 g)) (m.toNat - 1)) 4 else -4
def frN (h h' : bg_G) : Prop := (∀ k, k ≠ 115 → k ≠ 126 → k ≠ 130 → k ≠ 131 → k ≠ 132 → k ≠ 138 → k ≠ 139 → h' k = h k) ∧ (∀ j, j ≠ 12 → j ≠ 23 → h' 115 j = h 115 j) ∧ lieM h'
theorem frN_M {h h' h2 : bg_G} (h1 : frN h h') (h3 : frM h' h2) : frN h h2 := ⟨fun k a b c d e f g => by rw [h3.1 k a b c d e, h1.1 k a b c d e f g], fun j a b => by rw [h3.2.1 j a b, h1.2.1 j a b], h3.2.2⟩
theorem frN_wf {h h' : bg_G} (hf : frN h h') (hg : wfM h) : wfM h' := by
  have e : ∀ k, 117 ≤ k → k ≤ 121 → h' k = h k := fun k a b => hf.1 k (by omega) (by omega) (by omega) (by omega) (by omega) (by omega) (by omega)
  refine ⟨okM_fr hg.1 (e _ (by omega) (by omega)) (e _ (by omega) (by omega)) (e _ (by omega) (by omega)) (e _ (by omega) (by omega)) (e _ (by omega) (by omega)), ?_, hf.2.2⟩
  unfold TM
  rw [e 117 (by omega) (by omega), e 119 (by omega) (by omega), e 120 (by omega) (by omega)]
  exact hg.2.1
theorem frN_most {h h' : bg_G} (hf : frN h h') (s : Int) : mostM h' s = mostM h s := by
  have e : ∀ k, 117 ≤ k → k ≤ 121 → h' k = h k := fun k a b => hf.1 k (by omega) (by omega) (by omega) (by omega) (by omega) (by omega) (by omega)
  unfold mostM
  rw [heldM_fr (e 120 (by omega) (by omega)), mcM_fr (e 117 (by omega) (by omega)) (e 118 (by omega) (by omega))]
theorem frN_S {h h' : bg_G} (hf : frN h h') {s : Int} (hs : okS (h 117 0) (h 119 0) s) : okS (h' 117 0) (h' 119 0) s := by
  rw [hf.1 117 (by omega) (by omega) (by omega) (by omega) (by omega) (by omega) (by omega), hf.1 119 (by omega) (by omega) (by omega) (by omega) (by omega) (by omega) (by omega)]
  exact hs
theorem lieM_fr {h h' : bg_G} (e1 : h' 115 12 = h 115 12) (e2 : h' 117 = h 117) (e3 : h' 118 = h 118) (e4 : h' 126 = h 126) (hl : lieM h) : lieM h' := by
  unfold lieM at *
  rw [e1, e2, e4]
  rcases hl with hl | ⟨hl, ht⟩
  · exact Or.inl hl
  · exact Or.inr ⟨hl, fun m hm => by rw [mcM_fr e2 e3]; exact ht m hm⟩
theorem frN_up {h h' : bg_G} (hf : frN h h') {k : Nat} (hk : k = 138 ∨ k = 139) (j v : Int) : frN h (bg_up h' k j v) := by
  have ne : ∀ k', k' ≠ 138 → k' ≠ 139 → bg_up h' k j v k' = h' k' := fun k' a b => bg_up_ne (by omega)
  refine ⟨fun k' a b c d e f g => by rw [ne k' f g]; exact hf.1 k' a b c d e f g, fun j a b => by rw [ne 115 (by omega) (by omega)]; exact hf.2.1 j a b, ?_⟩
  exact lieM_fr (by rw [ne 115 (by omega) (by omega)]) (ne _ (by omega) (by omega)) (ne _ (by omega) (by omega)) (ne _ (by omega) (by omega)) hf.2.2
theorem s_mnights (d n : Nat) (m dd : Int) (hm : i32 m) (hd : i32 dd) (h : bg_G) (hg : wfM h) (hl : lotM h) (Rt : bg_R) (hR1 : (1 ≤ m ∧ m ≤ 8) → (0 ≤ dd ∧ dd ≤ 15) → tSet (fun k => h 122 k) ≠ 0 → ∀ h' : bg_G, frN h h' → Rt (some (.inl (nightA h m dd))) (bg_SH n, h')) (hR2 : (1 ≤ m ∧ m ≤ 8) → (0 ≤ dd ∧ dd ≤ 15) → tSet (fun k => h 122 k) = 0 → Rt (some (.inl (-2))) (bg_SH n, h)) (hR0 : ¬ ((1 ≤ m ∧ m ≤ 8) ∧ (0 ≤ dd ∧ dd ≤ 15)) → Rt (some (.inl (-1))) (bg_SH n, h)) : bg_Ca bg_MS (d + 5) 182 [vR 115, vI m, vI dd] (bg_SH n, h) Rt := by
  have hwl : (wsM h).length ≤ 400 := wsG_len _ _ _
  have hr : ∀ k : Nat, k < 4 → i32 (h 122 k) ∧ i32 (h 123 k) := fun k hk => by
    have := hl k hk
    refine ⟨?_, by omega⟩
    rcases this.1 with e | ⟨e, e2⟩
    · omega
    · have := e.1; omega
  have hS : ∀ k : Nat, k < 4 → 0 ≤ h 122 k → okS (h 117 0) (h 119 0) (h 122 k) ∧ h 122 k < 32768 := fun k hk h0 => by
    rcases (hl k hk).1 with e | e
    · omega
    · exact e
  obtain ⟨t, et⟩ : ∃ t : Nat, t = tSet (fun k => h 122 k) := ⟨_, rfl⟩
  have rt : t < 16 := by rw [et]; exact tSet_lt _
  have bt_t : ∀ k : Nat, k < 4 → bt (t : Int) k = if 0 ≤ h 122 k then 1 else 0 := fun k hk => by rw [et]; exact tSet_bt _ hk
  rw [← et] at hR1 hR2
  obtain ⟨M, eM⟩ : ∃ M : Nat → Int, M = fun g : Nat => mostM h (h 122 g) := ⟨_, rfl⟩
  have eM' : ∀ g : Nat, mostM h (h 122 g) = M g := fun g => by rw [eM]
  have rM : ∀ g, 0 ≤ M g ∧ M g ≤ 1200 := fun g => by rw [← eM']; exact mostM_rg hg.1 _
  obtain ⟨S, eS⟩ : ∃ S : Nat → Nat → Int, S = ntS (tldM h) (mayM h dd) M := ⟨_, rfl⟩
  have rS : ∀ t g, 0 ≤ S t g ∧ S t g ≤ 1000000 := fun t g => by rw [eS]; exact ntS_rg rM t g
  refine bg_ca (cd := cd_X9_nights) rfl rfl ?_
  intro X hX
  by_cases c1 : 1 ≤ m ∧ m ≤ 8
  · by_cases c2 : 0 ≤ dd ∧ dd ≤ 15
    · by_cases c3 : t = 0
      · have hR2 := hR2 c1 c2 c3
        iterate 4 (refine hX _ ?_; conv => whnf)
        try simp (disch := omega) only [bg_w_id, Int.toNat_natCast, rw_land, sh_land, not_true_eq_false]
        refine hX _ ?_; conv => whnf
        try simp (disch := omega) only [bg_w_id, Int.toNat_natCast, rw_land, sh_land, not_true_eq_false]
        refine s_in_t (d + 3) _ _ _ _ _ (by omega) (by omega) (by omega) c1 ?_
        conv => whnf
        refine hX _ ?_; conv => whnf
        refine ⟨fun q9 => ?_, fun q9 => ?_⟩
        · exfalso
          (try simp (disch := omega) only [bg_w_id, Int.toNat_natCast, rw_land, sh_land, not_true_eq_false, kc0, kc1, kc2, kc3, kc4, kc5, kc6, kc7, kc8, kc9, kc10, kc11, kc12, kc13, kc14, kc15, kc16, kc17, kc18, kc19, kc20, kc21, kc22, kc23, kc24, kc25, kc26, kc27, kc28, kc29, kc30, kc31, kc32, kc33] at q9) <;> (omega)
        · try simp (disch := omega) only [bg_w_id, Int.toNat_natCast, rw_land, sh_land, not_true_eq_false, kc0, kc1, kc2, kc3, kc4, kc5, kc6, kc7, kc8, kc9, kc10, kc11, kc12, kc13, kc14, kc15, kc16, kc17, kc18, kc19, kc20, kc21, kc22, kc23, kc24, kc25, kc26, kc27, kc28, kc29, kc30, kc31, kc32, kc33] at q9
          iterate 4 (refine hX _ ?_; conv => whnf)
          try simp (disch := omega) only [bg_w_id, Int.toNat_natCast, rw_land, sh_land, not_true_eq_false]
          refine hX _ ?_; conv => whnf
          try simp (disch := omega) only [bg_w_id, Int.toNat_natCast, rw_land, sh_land, not_true_eq_false]
          refine s_in_t (d + 3) _ _ _ _ _ (by omega) (by omega) (by omega) c2 ?_
          conv => whnf
          refine hX _ ?_; conv => whnf
          refine ⟨fun q21 => ?_, fun q21 => ?_⟩
          · try simp (disch := omega) only [bg_w_id, Int.toNat_natCast, rw_land, sh_land, not_true_eq_false, kc0, kc1, kc2, kc3, kc4, kc5, kc6, kc7, kc8, kc9, kc10, kc11, kc12, kc13, kc14, kc15, kc16, kc17, kc18, kc19, kc20, kc21, kc22, kc23, kc24, kc25, kc26, kc27, kc28, kc29, kc30, kc31, kc32, kc33] at q21
            iterate 2 (refine hX _ ?_; conv => whnf)
            refine hX _ ?_; conv => whnf
            try simp (disch := omega) only [bg_w_id, Int.toNat_natCast, rw_land, sh_land, not_true_eq_false]
            refine s_mtoldOnes (d + 3) n 0 (by omega) h hr _ ?_
            rw [toldM_0, ← et, c3]
            conv => whnf
            iterate 2 (refine hX _ ?_; conv => whnf)
            refine hX _ ?_; conv => whnf
            refine ⟨fun q33 => ?_, fun q33 => ?_⟩
            · exfalso
              (try simp (disch := omega) only [bg_w_id, Int.toNat_natCast, rw_land, sh_land, not_true_eq_false, kc0, kc1, kc2, kc3, kc4, kc5, kc6, kc7, kc8, kc9, kc10, kc11, kc12, kc13, kc14, kc15, kc16, kc17, kc18, kc19, kc20, kc21, kc22, kc23, kc24, kc25, kc26, kc27, kc28, kc29, kc30, kc31, kc32, kc33] at q33) <;> (omega)
            · try simp (disch := omega) only [bg_w_id, Int.toNat_natCast, rw_land, sh_land, not_true_eq_false, kc0, kc1, kc2, kc3, kc4, kc5, kc6, kc7, kc8, kc9, kc10, kc11, kc12, kc13, kc14, kc15, kc16, kc17, kc18, kc19, kc20, kc21, kc22, kc23, kc24, kc25, kc26, kc27, kc28, kc29, kc30, kc31, kc32, kc33] at q33
              refine hX _ ?_; conv => whnf
              refine hX _ ?_; conv => whnf
              exact hR2
          · exfalso
            (try simp (disch := omega) only [bg_w_id, Int.toNat_natCast, rw_land, sh_land, not_true_eq_false, kc0, kc1, kc2, kc3, kc4, kc5, kc6, kc7, kc8, kc9, kc10, kc11, kc12, kc13, kc14, kc15, kc16, kc17, kc18, kc19, kc20, kc21, kc22, kc23, kc24, kc25, kc26, kc27, kc28, kc29, kc30, kc31, kc32, kc33] at q21) <;> (omega)
      · have hR1 := hR1 c1 c2 c3
        unfold nightA at hR1
        rw [← eM, ← eS] at hR1
        obtain ⟨E, eE⟩ : ∃ E : Nat, E = m.toNat - 1 := ⟨_, rfl⟩
        rw [← eE] at hR1
        -- the best of the last
        have l5 : ∀ h' : bg_G, frN h h' → (∀ g : Nat, g < 4 → h' 138 g = S E g) → ∀ g, g ≤ 4 → ∀ (j6 j7 j8 : Option bg_V), X (304, [oR 115, oI m, oI dd, oI (t : Int), oI (ntB (S E) g), oI (g : Int), j6, j7, j8], [], (bg_SH n, h'), (0, 0)) := by
          intro h' hf hs
          have hR1 := hR1 h' hf
          refine lp_up 4 _ ?_ (fun g hg4 ih => ?_)
          · intro j6 j7 j8
            have r := ntB_rg (S := S E) 4 (fun k _ => (rS E k).1)
            iterate 2 (refine hX _ ?_; conv => whnf)
            refine hX _ ?_; conv => whnf
            refine ⟨fun q307 => ?_, fun q307 => ?_⟩
            · try simp (disch := omega) only [bg_w_id, Int.toNat_natCast, rw_land, sh_land, not_true_eq_false, kc0, kc1, kc2, kc3, kc4, kc5, kc6, kc7, kc8, kc9, kc10, kc11, kc12, kc13, kc14, kc15, kc16, kc17, kc18, kc19, kc20, kc21, kc22, kc23, kc24, kc25, kc26, kc27, kc28, kc29, kc30, kc31, kc32, kc33] at q307
              iterate 2 (refine hX _ ?_; conv => whnf)
              refine hX _ ?_; conv => whnf
              refine ⟨fun q347 => ?_, fun q347 => ?_⟩
              · try simp (disch := omega) only [bg_w_id, Int.toNat_natCast, rw_land, sh_land, not_true_eq_false, kc0, kc1, kc2, kc3, kc4, kc5, kc6, kc7, kc8, kc9, kc10, kc11, kc12, kc13, kc14, kc15, kc16, kc17, kc18, kc19, kc20, kc21, kc22, kc23, kc24, kc25, kc26, kc27, kc28, kc29, kc30, kc31, kc32, kc33] at q347
                refine hX _ ?_; conv => whnf
                refine hX _ ?_; conv => whnf
                first
                | (rw [if_pos (by omega)] at hR1; exact hR1)
                | (rw [if_neg (by omega)] at hR1; exact hR1)
              · try simp (disch := omega) only [bg_w_id, Int.toNat_natCast, rw_land, sh_land, not_true_eq_false, kc0, kc1, kc2, kc3, kc4, kc5, kc6, kc7, kc8, kc9, kc10, kc11, kc12, kc13, kc14, kc15, kc16, kc17, kc18, kc19, kc20, kc21, kc22, kc23, kc24, kc25, kc26, kc27, kc28, kc29, kc30, kc31, kc32, kc33] at q347
                iterate 2 (refine hX _ ?_; conv => whnf)
                refine hX _ ?_; conv => whnf
                first
                | (rw [if_pos (by omega)] at hR1; exact hR1)
                | (rw [if_neg (by omega)] at hR1; exact hR1)
            · exfalso
              (try simp (disch := omega) only [bg_w_id, Int.toNat_natCast, rw_land, sh_land, not_true_eq_false, kc0, kc1, kc2, kc3, kc4, kc5, kc6, kc7, kc8, kc9, kc10, kc11, kc12, kc13, kc14, kc15, kc16, kc17, kc18, kc19, kc20, kc21, kc22, kc23, kc24, kc25, kc26, kc27, kc28, kc29, kc30, kc31, kc32, kc33] at q307) <;> (omega)
          · intro j6 j7 j8
            have r := ntB_rg (S := S E) g (fun k _ => (rS E k).1)
            have r2 := rS E g
            have e1 := hs g hg4
            have ih : ∀ (j6 j7 j8 : Option bg_V), X (304, [oR 115, oI m, oI dd, oI (t : Int), oI (if S E g < ntB (S E) g then S E g else ntB (S E) g), oI ((g : Int) + 1), j6, j7, j8], [], (bg_SH n, h'), (0, 0)) := ih
            iterate 2 (refine hX _ ?_; conv => whnf)
            refine hX _ ?_; conv => whnf
            refine ⟨fun q307 => ?_, fun q307 => ?_⟩
            · exfalso
              (try simp (disch := omega) only [bg_w_id, Int.toNat_natCast, rw_land, sh_land, not_true_eq_false, e1, kc0, kc1, kc2, kc3, kc4, kc5, kc6, kc7, kc8, kc9, kc10, kc11, kc12, kc13, kc14, kc15, kc16, kc17, kc18, kc19, kc20, kc21, kc22, kc23, kc24, kc25, kc26, kc27, kc28, kc29, kc30, kc31, kc32, kc33] at q307) <;> (omega)
            · try simp (disch := omega) only [bg_w_id, Int.toNat_natCast, rw_land, sh_land, not_true_eq_false, e1, kc0, kc1, kc2, kc3, kc4, kc5, kc6, kc7, kc8, kc9, kc10, kc11, kc12, kc13, kc14, kc15, kc16, kc17, kc18, kc19, kc20, kc21, kc22, kc23, kc24, kc25, kc26, kc27, kc28, kc29, kc30, kc31, kc32, kc33] at q307
              iterate 3 (refine hX _ ?_; conv => whnf)
              refine hX _ ?_; conv => whnf
              try (simp (disch := omega) only [bg_w_id, Int.toNat_natCast, rw_land, sh_land, not_true_eq_false, e1]; try conv => whnf)
              refine ⟨by first | omega | (simp (disch := omega) only [bg_w_id, Int.toNat_natCast, rw_land, sh_land, not_true_eq_false, e1]; omega), ?_⟩
              refine hX _ ?_; conv => whnf
              refine hX _ ?_; conv => whnf
              refine ⟨fun q319 => ?_, fun q319 => ?_⟩
              · try simp (disch := omega) only [bg_w_id, Int.toNat_natCast, rw_land, sh_land, not_true_eq_false, e1, kc0, kc1, kc2, kc3, kc4, kc5, kc6, kc7, kc8, kc9, kc10, kc11, kc12, kc13, kc14, kc15, kc16, kc17, kc18, kc19, kc20, kc21, kc22, kc23, kc24, kc25, kc26, kc27, kc28, kc29, kc30, kc31, kc32, kc33] at q319
                iterate 4 (refine hX _ ?_; conv => whnf)
                first
                | (rw [if_pos (by omega)] at ih; exact ih _ _ _)
                | (rw [if_neg (by omega)] at ih; exact ih _ _ _)
              · try simp (disch := omega) only [bg_w_id, Int.toNat_natCast, rw_land, sh_land, not_true_eq_false, e1, kc0, kc1, kc2, kc3, kc4, kc5, kc6, kc7, kc8, kc9, kc10, kc11, kc12, kc13, kc14, kc15, kc16, kc17, kc18, kc19, kc20, kc21, kc22, kc23, kc24, kc25, kc26, kc27, kc28, kc29, kc30, kc31, kc32, kc33] at q319
                iterate 3 (refine hX _ ?_; conv => whnf)
                refine hX _ ?_; conv => whnf
                try (simp (disch := omega) only [bg_w_id, Int.toNat_natCast, rw_land, sh_land, not_true_eq_false, e1]; try conv => whnf)
                refine ⟨by first | omega | (simp (disch := omega) only [bg_w_id, Int.toNat_natCast, rw_land, sh_land, not_true_eq_false, e1]; omega), ?_⟩
                iterate 4 (refine hX _ ?_; conv => whnf)
                first
                | (rw [if_pos (by omega)] at ih; exact ih _ _ _)
                | (rw [if_neg (by omega)] at ih; exact ih _ _ _)
        -- a night more
        have l1 : ∀ q, q ≤ E → ∀ (h' : bg_G) (j5 j6 j7 j8 : Option bg_V), frN h h' → (∀ g : Nat, g < 4 → h' 138 g = S q g) → X (90, [oR 115, oI m, oI dd, oI (t : Int), oI ((q : Int) + 1), j5, j6, j7, j8], [], (bg_SH n, h'), (0, 0)) := by
          refine lp_up E _ ?_ (fun q hq ih => ?_)
          · intro h' j5 j6 j7 j8 hf hs
            iterate 2 (refine hX _ ?_; conv => whnf)
            refine hX _ ?_; conv => whnf
            refine ⟨fun q93 => ?_, fun q93 => ?_⟩
            · try simp (disch := omega) only [bg_w_id, Int.toNat_natCast, rw_land, sh_land, not_true_eq_false, kc0, kc1, kc2, kc3, kc4, kc5, kc6, kc7, kc8, kc9, kc10, kc11, kc12, kc13, kc14, kc15, kc16, kc17, kc18, kc19, kc20, kc21, kc22, kc23, kc24, kc25, kc26, kc27, kc28, kc29, kc30, kc31, kc32, kc33] at q93
              iterate 4 (refine hX _ ?_; conv => whnf)
              exact l5 h' hf hs 0 (by omega) _ _ _
            · exfalso
              (try simp (disch := omega) only [bg_w_id, Int.toNat_natCast, rw_land, sh_land, not_true_eq_false, kc0, kc1, kc2, kc3, kc4, kc5, kc6, kc7, kc8, kc9, kc10, kc11, kc12, kc13, kc14, kc15, kc16, kc17, kc18, kc19, kc20, kc21, kc22, kc23, kc24, kc25, kc26, kc27, kc28, kc29, kc30, kc31, kc32, kc33] at q93) <;> (omega)
          · intro h' j5 j6 j7 j8 hf hs
            -- the copy
            have l4 : ∀ g, g ≤ 4 → ∀ (h' : bg_G) (j6 j7 j8 : Option bg_V), frN h h' → (∀ g' : Nat, g' < 4 → h' 139 g' = S (q + 1) g') → (∀ g' : Nat, g' < g → h' 138 g' = S (q + 1) g') → X (264, [oR 115, oI m, oI dd, oI (t : Int), oI ((q : Int) + 1), oI (g : Int), j6, j7, j8], [], (bg_SH n, h'), (0, 0)) := by
              refine lp_up 4 _ ?_ (fun g hg4 ih2 => ?_)
              · intro h' j6 j7 j8 hf h8 h7
                iterate 2 (refine hX _ ?_; conv => whnf)
                refine hX _ ?_; conv => whnf
                refine ⟨fun q267 => ?_, fun q267 => ?_⟩
                · try simp (disch := omega) only [bg_w_id, Int.toNat_natCast, rw_land, sh_land, not_true_eq_false, kc0, kc1, kc2, kc3, kc4, kc5, kc6, kc7, kc8, kc9, kc10, kc11, kc12, kc13, kc14, kc15, kc16, kc17, kc18, kc19, kc20, kc21, kc22, kc23, kc24, kc25, kc26, kc27, kc28, kc29, kc30, kc31, kc32, kc33] at q267
                  iterate 2 (refine hX _ ?_; conv => whnf)
                  exact ih _ _ _ _ _ hf h7
                · exfalso
                  (try simp (disch := omega) only [bg_w_id, Int.toNat_natCast, rw_land, sh_land, not_true_eq_false, kc0, kc1, kc2, kc3, kc4, kc5, kc6, kc7, kc8, kc9, kc10, kc11, kc12, kc13, kc14, kc15, kc16, kc17, kc18, kc19, kc20, kc21, kc22, kc23, kc24, kc25, kc26, kc27, kc28, kc29, kc30, kc31, kc32, kc33] at q267) <;> (omega)
              · intro h' j6 j7 j8 hf h8 h7
                have e1 := h8 g hg4
                iterate 2 (refine hX _ ?_; conv => whnf)
                refine hX _ ?_; conv => whnf
                refine ⟨fun q267 => ?_, fun q267 => ?_⟩
                · exfalso
                  (try simp (disch := omega) only [bg_w_id, Int.toNat_natCast, rw_land, sh_land, not_true_eq_false, e1, kc0, kc1, kc2, kc3, kc4, kc5, kc6, kc7, kc8, kc9, kc10, kc11, kc12, kc13, kc14, kc15, kc16, kc17, kc18, kc19, kc20, kc21, kc22, kc23, kc24, kc25, kc26, kc27, kc28, kc29, kc30, kc31, kc32, kc33] at q267) <;> (omega)
                · try simp (disch := omega) only [bg_w_id, Int.toNat_natCast, rw_land, sh_land, not_true_eq_false, e1, kc0, kc1, kc2, kc3, kc4, kc5, kc6, kc7, kc8, kc9, kc10, kc11, kc12, kc13, kc14, kc15, kc16, kc17, kc18, kc19, kc20, kc21, kc22, kc23, kc24, kc25, kc26, kc27, kc28, kc29, kc30, kc31, kc32, kc33] at q267
                  iterate 6 (refine hX _ ?_; conv => whnf)
                  refine hX _ ?_; conv => whnf
                  try (simp (disch := omega) only [bg_w_id, Int.toNat_natCast, rw_land, sh_land, not_true_eq_false, e1]; try conv => whnf)
                  refine ⟨by first | omega | (simp (disch := omega) only [bg_w_id, Int.toNat_natCast, rw_land, sh_land, not_true_eq_false, e1]; omega), ?_⟩
                  refine hX _ ?_; conv => whnf
                  try (simp (disch := omega) only [bg_w_id, Int.toNat_natCast, rw_land, sh_land, not_true_eq_false, e1]; try conv => whnf)
                  refine ⟨by first | omega | (simp (disch := omega) only [bg_w_id, Int.toNat_natCast, rw_land, sh_land, not_true_eq_false, e1]; omega), ?_⟩
                  iterate 2 (refine hX _ ?_; conv => whnf)
                  refine ih2 _ _ _ _ (frN_up hf (Or.inl rfl) _ _) (fun g' hg' => by rw [bg_up_ne (by omega)]; exact h8 g' hg') (fun g' hg' => ?_)
                  by_cases e : g' = g
                  · subst e; rw [bg_up_self]
                  · rw [bg_up_nj (by omega)]; exact h7 g' (by omega)
            have l2 : ∀ g, g ≤ 4 → ∀ (h' : bg_G) (j6 j7 j8 : Option bg_V), frN h h' → (∀ g' : Nat, g' < 4 → h' 138 g' = S q g') → (∀ g' : Nat, g' < g → h' 139 g' = S (q + 1) g') → X (99, [oR 115, oI m, oI dd, oI (t : Int), oI ((q : Int) + 1), oI (g : Int), j6, j7, j8], [], (bg_SH n, h'), (0, 0)) := by
              refine lp_up 4 _ ?_ (fun g hg4 ih2 => ?_)
              · intro h' j6 j7 j8 hf h7 h8
                iterate 2 (refine hX _ ?_; conv => whnf)
                refine hX _ ?_; conv => whnf
                refine ⟨fun q102 => ?_, fun q102 => ?_⟩
                · try simp (disch := omega) only [bg_w_id, Int.toNat_natCast, rw_land, sh_land, not_true_eq_false, kc0, kc1, kc2, kc3, kc4, kc5, kc6, kc7, kc8, kc9, kc10, kc11, kc12, kc13, kc14, kc15, kc16, kc17, kc18, kc19, kc20, kc21, kc22, kc23, kc24, kc25, kc26, kc27, kc28, kc29, kc30, kc31, kc32, kc33] at q102
                  iterate 2 (refine hX _ ?_; conv => whnf)
                  exact l4 0 (by omega) h' _ _ _ hf h8 (fun g' hg' => absurd hg' (by omega))
                · exfalso
                  (try simp (disch := omega) only [bg_w_id, Int.toNat_natCast, rw_land, sh_land, not_true_eq_false, kc0, kc1, kc2, kc3, kc4, kc5, kc6, kc7, kc8, kc9, kc10, kc11, kc12, kc13, kc14, kc15, kc16, kc17, kc18, kc19, kc20, kc21, kc22, kc23, kc24, kc25, kc26, kc27, kc28, kc29, kc30, kc31, kc32, kc33] at q102) <;> (omega)
              · intro h' j6 j7 j8 hf h7 h8
                have eb := bt_t g hg4
                by_cases c4 : 0 ≤ h 122 g
                · rw [if_pos c4] at eb
                  have es : S (q + 1) g = ntF (mayM h dd) M (S q) g 4 := by
                    rw [eS]
                    show (if tldM h g then ntF (mayM h dd) M (ntS (tldM h) (mayM h dd) M q) g 4 else 1000000) = _
                    unfold tldM
                    rw [if_pos (by simp [c4])]
                  have l3 : ∀ k, k ≤ 4 → ∀ (h' : bg_G) (j7 j8 : Option bg_V), frN h h' → (∀ g' : Nat, g' < 4 → h' 138 g' = S q g') → (∀ g' : Nat, g' < g → h' 139 g' = S (q + 1) g') → h' 139 g = ntF (mayM h dd) M (S q) g k → X (118, [oR 115, oI m, oI dd, oI (t : Int), oI ((q : Int) + 1), oI (g : Int), oI (k : Int), j7, j8], [], (bg_SH n, h'), (0, 0)) := by
                    refine lp_up 4 _ ?_ (fun k hk4 ih3 => ?_)
                    · intro h' j7 j8 hf h7 h8 h9
                      iterate 2 (refine hX _ ?_; conv => whnf)
                      refine hX _ ?_; conv => whnf
                      refine ⟨fun q121 => ?_, fun q121 => ?_⟩
                      · try simp (disch := omega) only [bg_w_id, Int.toNat_natCast, rw_land, sh_land, not_true_eq_false, kc0, kc1, kc2, kc3, kc4, kc5, kc6, kc7, kc8, kc9, kc10, kc11, kc12, kc13, kc14, kc15, kc16, kc17, kc18, kc19, kc20, kc21, kc22, kc23, kc24, kc25, kc26, kc27, kc28, kc29, kc30, kc31, kc32, kc33] at q121
                        iterate 2 (refine hX _ ?_; conv => whnf)
                        refine ih2 _ _ _ _ hf h7 (fun g' hg' => ?_)
                        by_cases e : g' = g
                        · subst e; rw [h9, es]
                        · exact h8 g' (by omega)
                      · exfalso
                        (try simp (disch := omega) only [bg_w_id, Int.toNat_natCast, rw_land, sh_land, not_true_eq_false, kc0, kc1, kc2, kc3, kc4, kc5, kc6, kc7, kc8, kc9, kc10, kc11, kc12, kc13, kc14, kc15, kc16, kc17, kc18, kc19, kc20, kc21, kc22, kc23, kc24, kc25, kc26, kc27, kc28, kc29, kc30, kc31, kc32, kc33] at q121) <;> (omega)
                    · intro h' j7 j8 hf h7 h8 h9
                      have e121 := hf.1 122 (by omega) (by omega) (by omega) (by omega) (by omega) (by omega) (by omega)
                      have ek := bt_t k hk4
                      have rn := ntF_rg (may := mayM h dd) (M := M) (S := S q) (g := g) (rM g).1 k (fun k _ => (rS q k).1)
                      have rq := rS q k
                      have rg := rM g
                      have sg := hS g hg4 c4
                      have e7 := h7 k hk4
                      obtain ⟨a, ea⟩ : ∃ a : Nat, h 122 g = a := ⟨(h 122 g).toNat, by omega⟩
                      have fin : ∀ (h2 : bg_G) (j7 j8 : Option bg_V) (y v : Int), frN h h2 → h2 138 = h' 138 → h2 139 = h' 139 → v = ntV (mayM h dd) M (S q) g k → y = (if v < ntF (mayM h dd) M (S q) g k then v else ntF (mayM h dd) M (S q) g k) → X (118, [oR 115, oI m, oI dd, oI (t : Int), oI ((q : Int) + 1), oI (g : Int), oI ((k : Int) + 1), j7, j8], [], (bg_SH n, bg_up h2 139 g y), (0, 0)) := by
                        intro h2 j7 j8 y v hf2 x7 x8 ev ey
                        refine ih3 _ _ _ (frN_up hf2 (Or.inr rfl) _ _) (fun g' hg' => by rw [bg_up_ne (by omega), x7]; exact h7 g' hg') (fun g' hg' => ?_) ?_
                        · rw [bg_up_nj (by omega), x8]; exact h8 g' hg'
                        · rw [bg_up_self, ey, ev]; rfl
                      by_cases c5 : 0 ≤ h 122 k
                      · rw [if_pos c5] at ek
                        have sk := hS k hk4 c5
                        obtain ⟨b, ebk⟩ : ∃ b : Nat, h 122 k = b := ⟨(h 122 k).toNat, by omega⟩
                        have exr : bg_xor (a : Int) (b : Int) = ((a ^^^ b : Nat) : Int) := bn_xor (by omega) (by omega)
                        have hx : a ^^^ b < 32768 := Nat.xor_lt_two_pow (n := 15) (by omega) (by omega)
                        have rp := pc_le 15 (a ^^^ b)
                        have rp2 := pc_le 15 t
                        have em : mayM h dd g k = decide ((k ≠ g ∨ pc 15 t = 1) ∧ (pc 15 (a ^^^ b) : Int) ≤ dd) := by
                          unfold mayM
                          rw [← et, ea, ebk]
                          simp
                        iterate 2 (refine hX _ ?_; conv => whnf)
                        refine hX _ ?_; conv => whnf
                        refine ⟨fun q121 => ?_, fun q121 => ?_⟩
                        · exfalso
                          (try simp (disch := omega) only [bg_w_id, Int.toNat_natCast, rw_land, sh_land, not_true_eq_false, e121, ea, ebk, e7, h9, bg_up_ne, kc0, kc1, kc2, kc3, kc4, kc5, kc6, kc7, kc8, kc9, kc10, kc11, kc12, kc13, kc14, kc15, kc16, kc17, kc18, kc19, kc20, kc21, kc22, kc23, kc24, kc25, kc26, kc27, kc28, kc29, kc30, kc31, kc32, kc33] at q121) <;> (omega)
                        · try simp (disch := omega) only [bg_w_id, Int.toNat_natCast, rw_land, sh_land, not_true_eq_false, e121, ea, ebk, e7, h9, bg_up_ne, kc0, kc1, kc2, kc3, kc4, kc5, kc6, kc7, kc8, kc9, kc10, kc11, kc12, kc13, kc14, kc15, kc16, kc17, kc18, kc19, kc20, kc21, kc22, kc23, kc24, kc25, kc26, kc27, kc28, kc29, kc30, kc31, kc32, kc33] at q121
                          iterate 2 (refine hX _ ?_; conv => whnf)
                          refine hX _ ?_; conv => whnf
                          try simp (disch := omega) only [bg_w_id, Int.toNat_natCast, rw_land, sh_land, not_true_eq_false, e121, ea, ebk, e7, h9, bg_up_ne]
                          refine s_has (d + 3) _ _ _ _ ?_
                          rw [eb]
                          conv => whnf
                          refine hX _ ?_; conv => whnf
                          refine ⟨fun q130 => ?_, fun q130 => ?_⟩
                          · exfalso
                            (try simp (disch := omega) only [bg_w_id, Int.toNat_natCast, rw_land, sh_land, not_true_eq_false, e121, ea, ebk, e7, h9, bg_up_ne, kc0, kc1, kc2, kc3, kc4, kc5, kc6, kc7, kc8, kc9, kc10, kc11, kc12, kc13, kc14, kc15, kc16, kc17, kc18, kc19, kc20, kc21, kc22, kc23, kc24, kc25, kc26, kc27, kc28, kc29, kc30, kc31, kc32, kc33] at q130) <;> (omega)
                          · try simp (disch := omega) only [bg_w_id, Int.toNat_natCast, rw_land, sh_land, not_true_eq_false, e121, ea, ebk, e7, h9, bg_up_ne, kc0, kc1, kc2, kc3, kc4, kc5, kc6, kc7, kc8, kc9, kc10, kc11, kc12, kc13, kc14, kc15, kc16, kc17, kc18, kc19, kc20, kc21, kc22, kc23, kc24, kc25, kc26, kc27, kc28, kc29, kc30, kc31, kc32, kc33] at q130
                            iterate 2 (refine hX _ ?_; conv => whnf)
                            refine hX _ ?_; conv => whnf
                            try simp (disch := omega) only [bg_w_id, Int.toNat_natCast, rw_land, sh_land, not_true_eq_false, e121, ea, ebk, e7, h9, bg_up_ne]
                            refine s_has (d + 3) _ _ _ _ ?_
                            rw [ek]
                            conv => whnf
                            refine hX _ ?_; conv => whnf
                            refine ⟨fun q139 => ?_, fun q139 => ?_⟩
                            · exfalso
                              (try simp (disch := omega) only [bg_w_id, Int.toNat_natCast, rw_land, sh_land, not_true_eq_false, e121, ea, ebk, e7, h9, bg_up_ne, kc0, kc1, kc2, kc3, kc4, kc5, kc6, kc7, kc8, kc9, kc10, kc11, kc12, kc13, kc14, kc15, kc16, kc17, kc18, kc19, kc20, kc21, kc22, kc23, kc24, kc25, kc26, kc27, kc28, kc29, kc30, kc31, kc32, kc33] at q139) <;> (omega)
                            · try simp (disch := omega) only [bg_w_id, Int.toNat_natCast, rw_land, sh_land, not_true_eq_false, e121, ea, ebk, e7, h9, bg_up_ne, kc0, kc1, kc2, kc3, kc4, kc5, kc6, kc7, kc8, kc9, kc10, kc11, kc12, kc13, kc14, kc15, kc16, kc17, kc18, kc19, kc20, kc21, kc22, kc23, kc24, kc25, kc26, kc27, kc28, kc29, kc30, kc31, kc32, kc33] at q139
                              iterate 2 (refine hX _ ?_; conv => whnf)
                              refine hX _ ?_; conv => whnf
                              refine ⟨fun q146 => ?_, fun q146 => ?_⟩
                              · try simp (disch := omega) only [bg_w_id, Int.toNat_natCast, rw_land, sh_land, not_true_eq_false, e121, ea, ebk, e7, h9, bg_up_ne, kc0, kc1, kc2, kc3, kc4, kc5, kc6, kc7, kc8, kc9, kc10, kc11, kc12, kc13, kc14, kc15, kc16, kc17, kc18, kc19, kc20, kc21, kc22, kc23, kc24, kc25, kc26, kc27, kc28, kc29, kc30, kc31, kc32, kc33] at q146
                                iterate 3 (refine hX _ ?_; conv => whnf)
                                refine hX _ ?_; conv => whnf
                                try (simp (disch := omega) only [bg_w_id, Int.toNat_natCast, rw_land, sh_land, not_true_eq_false, e121, ea, ebk, e7, h9, bg_up_ne]; try conv => whnf)
                                refine ⟨by first | omega | (simp (disch := omega) only [bg_w_id, Int.toNat_natCast, rw_land, sh_land, not_true_eq_false, e121, ea, ebk, e7, h9, bg_up_ne]; omega), ?_⟩
                                iterate 3 (refine hX _ ?_; conv => whnf)
                                refine hX _ ?_; conv => whnf
                                try (simp (disch := omega) only [bg_w_id, Int.toNat_natCast, rw_land, sh_land, not_true_eq_false, e121, ea, ebk, e7, h9, bg_up_ne]; try conv => whnf)
                                refine ⟨by first | omega | (simp (disch := omega) only [bg_w_id, Int.toNat_natCast, rw_land, sh_land, not_true_eq_false, e121, ea, ebk, e7, h9, bg_up_ne]; omega), ?_⟩
                                refine hX _ ?_; conv => whnf
                                refine hX _ ?_; conv => whnf
                                try simp (disch := omega) only [bg_w_id, Int.toNat_natCast, rw_land, sh_land, not_true_eq_false, e121, ea, ebk, e7, h9, bg_up_ne]
                                rw [exr]
                                refine s_mbits (d + 3) _ hx _ _ ?_
                                conv => whnf
                                refine hX _ ?_; conv => whnf
                                refine hX _ ?_; conv => whnf
                                refine ⟨fun q176 => ?_, fun q176 => ?_⟩
                                · try simp (disch := omega) only [bg_w_id, Int.toNat_natCast, rw_land, sh_land, not_true_eq_false, e121, ea, ebk, e7, h9, bg_up_ne, kc0, kc1, kc2, kc3, kc4, kc5, kc6, kc7, kc8, kc9, kc10, kc11, kc12, kc13, kc14, kc15, kc16, kc17, kc18, kc19, kc20, kc21, kc22, kc23, kc24, kc25, kc26, kc27, kc28, kc29, kc30, kc31, kc32, kc33] at q176
                                  iterate 3 (refine hX _ ?_; conv => whnf)
                                  refine hX _ ?_; conv => whnf
                                  refine ⟨fun q188 => ?_, fun q188 => ?_⟩
                                  · first
                                    | (exfalso; (try simp (disch := omega) only [bg_w_id, Int.toNat_natCast, rw_land, sh_land, not_true_eq_false, e121, ea, ebk, e7, h9, bg_up_ne, kc0, kc1, kc2, kc3, kc4, kc5, kc6, kc7, kc8, kc9, kc10, kc11, kc12, kc13, kc14, kc15, kc16, kc17, kc18, kc19, kc20, kc21, kc22, kc23, kc24, kc25, kc26, kc27, kc28, kc29, kc30, kc31, kc32, kc33] at q188) <;> omega)
                                    | (try simp (disch := omega) only [bg_w_id, Int.toNat_natCast, rw_land, sh_land, not_true_eq_false, e121, ea, ebk, e7, h9, bg_up_ne, kc0, kc1, kc2, kc3, kc4, kc5, kc6, kc7, kc8, kc9, kc10, kc11, kc12, kc13, kc14, kc15, kc16, kc17, kc18, kc19, kc20, kc21, kc22, kc23, kc24, kc25, kc26, kc27, kc28, kc29, kc30, kc31, kc32, kc33] at q188
                                       iterate 9 (refine hX _ ?_; conv => whnf)
                                       refine hX _ ?_; conv => whnf
                                       try (simp (disch := omega) only [bg_w_id, Int.toNat_natCast, rw_land, sh_land, not_true_eq_false, e121, ea, ebk, e7, h9, bg_up_ne]; try conv => whnf)
                                       refine ⟨by first | omega | (simp (disch := omega) only [bg_w_id, Int.toNat_natCast, rw_land, sh_land, not_true_eq_false, e121, ea, ebk, e7, h9, bg_up_ne]; omega), ?_⟩
                                       refine hX _ ?_; conv => whnf
                                       refine ⟨fun q233 => ?_, fun q233 => ?_⟩
                                       · try simp (disch := omega) only [bg_w_id, Int.toNat_natCast, rw_land, sh_land, not_true_eq_false, e121, ea, ebk, e7, h9, bg_up_ne, kc0, kc1, kc2, kc3, kc4, kc5, kc6, kc7, kc8, kc9, kc10, kc11, kc12, kc13, kc14, kc15, kc16, kc17, kc18, kc19, kc20, kc21, kc22, kc23, kc24, kc25, kc26, kc27, kc28, kc29, kc30, kc31, kc32, kc33] at q233
                                         iterate 3 (refine hX _ ?_; conv => whnf)
                                         refine hX _ ?_; conv => whnf
                                         try (simp (disch := omega) only [bg_w_id, Int.toNat_natCast, rw_land, sh_land, not_true_eq_false, e121, ea, ebk, e7, h9, bg_up_ne]; try conv => whnf)
                                         refine ⟨by first | omega | (simp (disch := omega) only [bg_w_id, Int.toNat_natCast, rw_land, sh_land, not_true_eq_false, e121, ea, ebk, e7, h9, bg_up_ne]; omega), ?_⟩
                                         refine hX _ ?_; conv => whnf
                                         try (simp (disch := omega) only [bg_w_id, Int.toNat_natCast, rw_land, sh_land, not_true_eq_false, e121, ea, ebk, e7, h9, bg_up_ne]; try conv => whnf)
                                         refine ⟨by first | omega | (simp (disch := omega) only [bg_w_id, Int.toNat_natCast, rw_land, sh_land, not_true_eq_false, e121, ea, ebk, e7, h9, bg_up_ne]; omega), ?_⟩
                                         iterate 2 (refine hX _ ?_; conv => whnf)
                                         first
                                         | (exfalso; omega)
                                         | exact fin h2 _ _ _ (S q k + M g) (frN_M hf hf2) x7 x8 (by unfold ntV; rw [em, if_pos (by simp; omega)]) (by rw [if_pos (by omega)])
                                         | exact fin h2 _ _ _ (S q k + M g) (frN_M hf hf2) x7 x8 (by unfold ntV; rw [em, if_pos (by simp; omega)]) (by rw [y9, if_neg (by omega)])
                                         | exact fin h' _ _ _ 1000000 hf rfl rfl (by unfold ntV; rw [em, if_neg (by simp; omega)]) (by rw [if_neg (by omega)])
                                       · try simp (disch := omega) only [bg_w_id, Int.toNat_natCast, rw_land, sh_land, not_true_eq_false, e121, ea, ebk, e7, h9, bg_up_ne, kc0, kc1, kc2, kc3, kc4, kc5, kc6, kc7, kc8, kc9, kc10, kc11, kc12, kc13, kc14, kc15, kc16, kc17, kc18, kc19, kc20, kc21, kc22, kc23, kc24, kc25, kc26, kc27, kc28, kc29, kc30, kc31, kc32, kc33] at q233
                                         iterate 2 (refine hX _ ?_; conv => whnf)
                                         refine hX _ ?_; conv => whnf
                                         try (simp (disch := omega) only [bg_w_id, Int.toNat_natCast, rw_land, sh_land, not_true_eq_false, e121, ea, ebk, e7, h9, bg_up_ne]; try conv => whnf)
                                         refine ⟨by first | omega | (simp (disch := omega) only [bg_w_id, Int.toNat_natCast, rw_land, sh_land, not_true_eq_false, e121, ea, ebk, e7, h9, bg_up_ne]; omega), ?_⟩
                                         iterate 2 (refine hX _ ?_; conv => whnf)
                                         first
                                         | (exfalso; omega)
                                         | exact fin h2 _ _ _ (S q k + M g) (frN_M hf hf2) x7 x8 (by unfold ntV; rw [em, if_pos (by simp; omega)]) (by rw [if_pos (by omega)])
                                         | exact fin h2 _ _ _ (S q k + M g) (frN_M hf hf2) x7 x8 (by unfold ntV; rw [em, if_pos (by simp; omega)]) (by rw [y9, if_neg (by omega)])
                                         | exact fin h' _ _ _ 1000000 hf rfl rfl (by unfold ntV; rw [em, if_neg (by simp; omega)]) (by rw [if_neg (by omega)]))
                                  · first
                                    | (exfalso; (try simp (disch := omega) only [bg_w_id, Int.toNat_natCast, rw_land, sh_land, not_true_eq_false, e121, ea, ebk, e7, h9, bg_up_ne, kc0, kc1, kc2, kc3, kc4, kc5, kc6, kc7, kc8, kc9, kc10, kc11, kc12, kc13, kc14, kc15, kc16, kc17, kc18, kc19, kc20, kc21, kc22, kc23, kc24, kc25, kc26, kc27, kc28, kc29, kc30, kc31, kc32, kc33] at q188) <;> omega)
                                    | (try simp (disch := omega) only [bg_w_id, Int.toNat_natCast, rw_land, sh_land, not_true_eq_false, e121, ea, ebk, e7, h9, bg_up_ne, kc0, kc1, kc2, kc3, kc4, kc5, kc6, kc7, kc8, kc9, kc10, kc11, kc12, kc13, kc14, kc15, kc16, kc17, kc18, kc19, kc20, kc21, kc22, kc23, kc24, kc25, kc26, kc27, kc28, kc29, kc30, kc31, kc32, kc33] at q188
                                       iterate 3 (refine hX _ ?_; conv => whnf)
                                       refine hX _ ?_; conv => whnf
                                       try (simp (disch := omega) only [bg_w_id, Int.toNat_natCast, rw_land, sh_land, not_true_eq_false, e121, ea, ebk, e7, h9, bg_up_ne]; try conv => whnf)
                                       refine ⟨by first | omega | (simp (disch := omega) only [bg_w_id, Int.toNat_natCast, rw_land, sh_land, not_true_eq_false, e121, ea, ebk, e7, h9, bg_up_ne]; omega), ?_⟩
                                       iterate 4 (refine hX _ ?_; conv => whnf)
                                       refine hX _ ?_; conv => whnf
                                       try (simp (disch := omega) only [bg_w_id, Int.toNat_natCast, rw_land, sh_land, not_true_eq_false, e121, ea, ebk, e7, h9, bg_up_ne]; try conv => whnf)
                                       refine ⟨by first | omega | (simp (disch := omega) only [bg_w_id, Int.toNat_natCast, rw_land, sh_land, not_true_eq_false, e121, ea, ebk, e7, h9, bg_up_ne]; omega), ?_⟩
                                       refine hX _ ?_; conv => whnf
                                       try simp (disch := omega) only [bg_w_id, Int.toNat_natCast, rw_land, sh_land, not_true_eq_false, e121, ea, ebk, e7, h9, bg_up_ne]
                                       refine s_mB d n _ (by omega) h' (frN_wf hf hg) (frN_S hf (by rw [← ea]; exact sg.1)) _ (fun h2 hf2 _ => ?_)
                                       rw [frN_most hf, ← ea, eM']
                                       have x7 := hf2.1 138 (by omega) (by omega) (by omega) (by omega) (by omega)
                                       have x8 := hf2.1 139 (by omega) (by omega) (by omega) (by omega) (by omega)
                                       have y9 : h2 139 g = ntF (mayM h dd) M (S q) g k := by rw [x8]; exact h9
                                       conv => whnf
                                       iterate 10 (refine hX _ ?_; conv => whnf)
                                       refine hX _ ?_; conv => whnf
                                       try (simp (disch := omega) only [bg_w_id, Int.toNat_natCast, rw_land, sh_land, not_true_eq_false, e121, ea, ebk, e7, h9, bg_up_ne]; try conv => whnf)
                                       refine ⟨by first | omega | (simp (disch := omega) only [bg_w_id, Int.toNat_natCast, rw_land, sh_land, not_true_eq_false, e121, ea, ebk, e7, h9, bg_up_ne]; omega), ?_⟩
                                       refine hX _ ?_; conv => whnf
                                       refine ⟨fun q233 => ?_, fun q233 => ?_⟩
                                       · try simp (disch := omega) only [bg_w_id, Int.toNat_natCast, rw_land, sh_land, not_true_eq_false, e121, ea, ebk, e7, h9, bg_up_ne, kc0, kc1, kc2, kc3, kc4, kc5, kc6, kc7, kc8, kc9, kc10, kc11, kc12, kc13, kc14, kc15, kc16, kc17, kc18, kc19, kc20, kc21, kc22, kc23, kc24, kc25, kc26, kc27, kc28, kc29, kc30, kc31, kc32, kc33] at q233
                                         iterate 3 (refine hX _ ?_; conv => whnf)
                                         refine hX _ ?_; conv => whnf
                                         try (simp (disch := omega) only [bg_w_id, Int.toNat_natCast, rw_land, sh_land, not_true_eq_false, e121, ea, ebk, e7, h9, bg_up_ne]; try conv => whnf)
                                         refine ⟨by first | omega | (simp (disch := omega) only [bg_w_id, Int.toNat_natCast, rw_land, sh_land, not_true_eq_false, e121, ea, ebk, e7, h9, bg_up_ne]; omega), ?_⟩
                                         refine hX _ ?_; conv => whnf
                                         try (simp (disch := omega) only [bg_w_id, Int.toNat_natCast, rw_land, sh_land, not_true_eq_false, e121, ea, ebk, e7, h9, bg_up_ne]; try conv => whnf)
                                         refine ⟨by first | omega | (simp (disch := omega) only [bg_w_id, Int.toNat_natCast, rw_land, sh_land, not_true_eq_false, e121, ea, ebk, e7, h9, bg_up_ne]; omega), ?_⟩
                                         iterate 2 (refine hX _ ?_; conv => whnf)
                                         first
                                         | (exfalso; omega)
                                         | exact fin h2 _ _ _ (S q k + M g) (frN_M hf hf2) x7 x8 (by unfold ntV; rw [em, if_pos (by simp; omega)]) (by rw [if_pos (by omega)])
                                         | exact fin h2 _ _ _ (S q k + M g) (frN_M hf hf2) x7 x8 (by unfold ntV; rw [em, if_pos (by simp; omega)]) (by rw [y9, if_neg (by omega)])
                                         | exact fin h' _ _ _ 1000000 hf rfl rfl (by unfold ntV; rw [em, if_neg (by simp; omega)]) (by rw [if_neg (by omega)])
                                       · try simp (disch := omega) only [bg_w_id, Int.toNat_natCast, rw_land, sh_land, not_true_eq_false, e121, ea, ebk, e7, h9, bg_up_ne, kc0, kc1, kc2, kc3, kc4, kc5, kc6, kc7, kc8, kc9, kc10, kc11, kc12, kc13, kc14, kc15, kc16, kc17, kc18, kc19, kc20, kc21, kc22, kc23, kc24, kc25, kc26, kc27, kc28, kc29, kc30, kc31, kc32, kc33] at q233
                                         iterate 2 (refine hX _ ?_; conv => whnf)
                                         refine hX _ ?_; conv => whnf
                                         try (simp (disch := omega) only [bg_w_id, Int.toNat_natCast, rw_land, sh_land, not_true_eq_false, e121, ea, ebk, e7, h9, bg_up_ne]; try conv => whnf)
                                         refine ⟨by first | omega | (simp (disch := omega) only [bg_w_id, Int.toNat_natCast, rw_land, sh_land, not_true_eq_false, e121, ea, ebk, e7, h9, bg_up_ne]; omega), ?_⟩
                                         iterate 2 (refine hX _ ?_; conv => whnf)
                                         first
                                         | (exfalso; omega)
                                         | exact fin h2 _ _ _ (S q k + M g) (frN_M hf hf2) x7 x8 (by unfold ntV; rw [em, if_pos (by simp; omega)]) (by rw [if_pos (by omega)])
                                         | exact fin h2 _ _ _ (S q k + M g) (frN_M hf hf2) x7 x8 (by unfold ntV; rw [em, if_pos (by simp; omega)]) (by rw [y9, if_neg (by omega)])
                                         | exact fin h' _ _ _ 1000000 hf rfl rfl (by unfold ntV; rw [em, if_neg (by simp; omega)]) (by rw [if_neg (by omega)]))
                                · try simp (disch := omega) only [bg_w_id, Int.toNat_natCast, rw_land, sh_land, not_true_eq_false, e121, ea, ebk, e7, h9, bg_up_ne, kc0, kc1, kc2, kc3, kc4, kc5, kc6, kc7, kc8, kc9, kc10, kc11, kc12, kc13, kc14, kc15, kc16, kc17, kc18, kc19, kc20, kc21, kc22, kc23, kc24, kc25, kc26, kc27, kc28, kc29, kc30, kc31, kc32, kc33] at q176
                                  iterate 4 (refine hX _ ?_; conv => whnf)
                                  refine hX _ ?_; conv => whnf
                                  refine ⟨fun q188 => ?_, fun q188 => ?_⟩
                                  · first
                                    | (exfalso; (try simp (disch := omega) only [bg_w_id, Int.toNat_natCast, rw_land, sh_land, not_true_eq_false, e121, ea, ebk, e7, h9, bg_up_ne, kc0, kc1, kc2, kc3, kc4, kc5, kc6, kc7, kc8, kc9, kc10, kc11, kc12, kc13, kc14, kc15, kc16, kc17, kc18, kc19, kc20, kc21, kc22, kc23, kc24, kc25, kc26, kc27, kc28, kc29, kc30, kc31, kc32, kc33] at q188) <;> omega)
                                    | (try simp (disch := omega) only [bg_w_id, Int.toNat_natCast, rw_land, sh_land, not_true_eq_false, e121, ea, ebk, e7, h9, bg_up_ne, kc0, kc1, kc2, kc3, kc4, kc5, kc6, kc7, kc8, kc9, kc10, kc11, kc12, kc13, kc14, kc15, kc16, kc17, kc18, kc19, kc20, kc21, kc22, kc23, kc24, kc25, kc26, kc27, kc28, kc29, kc30, kc31, kc32, kc33] at q188
                                       iterate 9 (refine hX _ ?_; conv => whnf)
                                       refine hX _ ?_; conv => whnf
                                       try (simp (disch := omega) only [bg_w_id, Int.toNat_natCast, rw_land, sh_land, not_true_eq_false, e121, ea, ebk, e7, h9, bg_up_ne]; try conv => whnf)
                                       refine ⟨by first | omega | (simp (disch := omega) only [bg_w_id, Int.toNat_natCast, rw_land, sh_land, not_true_eq_false, e121, ea, ebk, e7, h9, bg_up_ne]; omega), ?_⟩
                                       refine hX _ ?_; conv => whnf
                                       refine ⟨fun q233 => ?_, fun q233 => ?_⟩
                                       · try simp (disch := omega) only [bg_w_id, Int.toNat_natCast, rw_land, sh_land, not_true_eq_false, e121, ea, ebk, e7, h9, bg_up_ne, kc0, kc1, kc2, kc3, kc4, kc5, kc6, kc7, kc8, kc9, kc10, kc11, kc12, kc13, kc14, kc15, kc16, kc17, kc18, kc19, kc20, kc21, kc22, kc23, kc24, kc25, kc26, kc27, kc28, kc29, kc30, kc31, kc32, kc33] at q233
                                         iterate 3 (refine hX _ ?_; conv => whnf)
                                         refine hX _ ?_; conv => whnf
                                         try (simp (disch := omega) only [bg_w_id, Int.toNat_natCast, rw_land, sh_land, not_true_eq_false, e121, ea, ebk, e7, h9, bg_up_ne]; try conv => whnf)
                                         refine ⟨by first | omega | (simp (disch := omega) only [bg_w_id, Int.toNat_natCast, rw_land, sh_land, not_true_eq_false, e121, ea, ebk, e7, h9, bg_up_ne]; omega), ?_⟩
                                         refine hX _ ?_; conv => whnf
                                         try (simp (disch := omega) only [bg_w_id, Int.toNat_natCast, rw_land, sh_land, not_true_eq_false, e121, ea, ebk, e7, h9, bg_up_ne]; try conv => whnf)
                                         refine ⟨by first | omega | (simp (disch := omega) only [bg_w_id, Int.toNat_natCast, rw_land, sh_land, not_true_eq_false, e121, ea, ebk, e7, h9, bg_up_ne]; omega), ?_⟩
                                         iterate 2 (refine hX _ ?_; conv => whnf)
                                         first
                                         | (exfalso; omega)
                                         | exact fin h2 _ _ _ (S q k + M g) (frN_M hf hf2) x7 x8 (by unfold ntV; rw [em, if_pos (by simp; omega)]) (by rw [if_pos (by omega)])
                                         | exact fin h2 _ _ _ (S q k + M g) (frN_M hf hf2) x7 x8 (by unfold ntV; rw [em, if_pos (by simp; omega)]) (by rw [y9, if_neg (by omega)])
                                         | exact fin h' _ _ _ 1000000 hf rfl rfl (by unfold ntV; rw [em, if_neg (by simp; omega)]) (by rw [if_neg (by omega)])
                                       · try simp (disch := omega) only [bg_w_id, Int.toNat_natCast, rw_land, sh_land, not_true_eq_false, e121, ea, ebk, e7, h9, bg_up_ne, kc0, kc1, kc2, kc3, kc4, kc5, kc6, kc7, kc8, kc9, kc10, kc11, kc12, kc13, kc14, kc15, kc16, kc17, kc18, kc19, kc20, kc21, kc22, kc23, kc24, kc25, kc26, kc27, kc28, kc29, kc30, kc31, kc32, kc33] at q233
                                         iterate 2 (refine hX _ ?_; conv => whnf)
                                         refine hX _ ?_; conv => whnf
                                         try (simp (disch := omega) only [bg_w_id, Int.toNat_natCast, rw_land, sh_land, not_true_eq_false, e121, ea, ebk, e7, h9, bg_up_ne]; try conv => whnf)
                                         refine ⟨by first | omega | (simp (disch := omega) only [bg_w_id, Int.toNat_natCast, rw_land, sh_land, not_true_eq_false, e121, ea, ebk, e7, h9, bg_up_ne]; omega), ?_⟩
                                         iterate 2 (refine hX _ ?_; conv => whnf)
                                         first
                                         | (exfalso; omega)
                                         | exact fin h2 _ _ _ (S q k + M g) (frN_M hf hf2) x7 x8 (by unfold ntV; rw [em, if_pos (by simp; omega)]) (by rw [if_pos (by omega)])
                                         | exact fin h2 _ _ _ (S q k + M g) (frN_M hf hf2) x7 x8 (by unfold ntV; rw [em, if_pos (by simp; omega)]) (by rw [y9, if_neg (by omega)])
                                         | exact fin h' _ _ _ 1000000 hf rfl rfl (by unfold ntV; rw [em, if_neg (by simp; omega)]) (by rw [if_neg (by omega)]))
                                  · first
                                    | (exfalso; (try simp (disch := omega) only [bg_w_id, Int.toNat_natCast, rw_land, sh_land, not_true_eq_false, e121, ea, ebk, e7, h9, bg_up_ne, kc0, kc1, kc2, kc3, kc4, kc5, kc6, kc7, kc8, kc9, kc10, kc11, kc12, kc13, kc14, kc15, kc16, kc17, kc18, kc19, kc20, kc21, kc22, kc23, kc24, kc25, kc26, kc27, kc28, kc29, kc30, kc31, kc32, kc33] at q188) <;> omega)
                                    | (try simp (disch := omega) only [bg_w_id, Int.toNat_natCast, rw_land, sh_land, not_true_eq_false, e121, ea, ebk, e7, h9, bg_up_ne, kc0, kc1, kc2, kc3, kc4, kc5, kc6, kc7, kc8, kc9, kc10, kc11, kc12, kc13, kc14, kc15, kc16, kc17, kc18, kc19, kc20, kc21, kc22, kc23, kc24, kc25, kc26, kc27, kc28, kc29, kc30, kc31, kc32, kc33] at q188
                                       iterate 3 (refine hX _ ?_; conv => whnf)
                                       refine hX _ ?_; conv => whnf
                                       try (simp (disch := omega) only [bg_w_id, Int.toNat_natCast, rw_land, sh_land, not_true_eq_false, e121, ea, ebk, e7, h9, bg_up_ne]; try conv => whnf)
                                       refine ⟨by first | omega | (simp (disch := omega) only [bg_w_id, Int.toNat_natCast, rw_land, sh_land, not_true_eq_false, e121, ea, ebk, e7, h9, bg_up_ne]; omega), ?_⟩
                                       iterate 4 (refine hX _ ?_; conv => whnf)
                                       refine hX _ ?_; conv => whnf
                                       try (simp (disch := omega) only [bg_w_id, Int.toNat_natCast, rw_land, sh_land, not_true_eq_false, e121, ea, ebk, e7, h9, bg_up_ne]; try conv => whnf)
                                       refine ⟨by first | omega | (simp (disch := omega) only [bg_w_id, Int.toNat_natCast, rw_land, sh_land, not_true_eq_false, e121, ea, ebk, e7, h9, bg_up_ne]; omega), ?_⟩
                                       refine hX _ ?_; conv => whnf
                                       try simp (disch := omega) only [bg_w_id, Int.toNat_natCast, rw_land, sh_land, not_true_eq_false, e121, ea, ebk, e7, h9, bg_up_ne]
                                       refine s_mB d n _ (by omega) h' (frN_wf hf hg) (frN_S hf (by rw [← ea]; exact sg.1)) _ (fun h2 hf2 _ => ?_)
                                       rw [frN_most hf, ← ea, eM']
                                       have x7 := hf2.1 138 (by omega) (by omega) (by omega) (by omega) (by omega)
                                       have x8 := hf2.1 139 (by omega) (by omega) (by omega) (by omega) (by omega)
                                       have y9 : h2 139 g = ntF (mayM h dd) M (S q) g k := by rw [x8]; exact h9
                                       conv => whnf
                                       iterate 10 (refine hX _ ?_; conv => whnf)
                                       refine hX _ ?_; conv => whnf
                                       try (simp (disch := omega) only [bg_w_id, Int.toNat_natCast, rw_land, sh_land, not_true_eq_false, e121, ea, ebk, e7, h9, bg_up_ne]; try conv => whnf)
                                       refine ⟨by first | omega | (simp (disch := omega) only [bg_w_id, Int.toNat_natCast, rw_land, sh_land, not_true_eq_false, e121, ea, ebk, e7, h9, bg_up_ne]; omega), ?_⟩
                                       refine hX _ ?_; conv => whnf
                                       refine ⟨fun q233 => ?_, fun q233 => ?_⟩
                                       · try simp (disch := omega) only [bg_w_id, Int.toNat_natCast, rw_land, sh_land, not_true_eq_false, e121, ea, ebk, e7, h9, bg_up_ne, kc0, kc1, kc2, kc3, kc4, kc5, kc6, kc7, kc8, kc9, kc10, kc11, kc12, kc13, kc14, kc15, kc16, kc17, kc18, kc19, kc20, kc21, kc22, kc23, kc24, kc25, kc26, kc27, kc28, kc29, kc30, kc31, kc32, kc33] at q233
                                         iterate 3 (refine hX _ ?_; conv => whnf)
                                         refine hX _ ?_; conv => whnf
                                         try (simp (disch := omega) only [bg_w_id, Int.toNat_natCast, rw_land, sh_land, not_true_eq_false, e121, ea, ebk, e7, h9, bg_up_ne]; try conv => whnf)
                                         refine ⟨by first | omega | (simp (disch := omega) only [bg_w_id, Int.toNat_natCast, rw_land, sh_land, not_true_eq_false, e121, ea, ebk, e7, h9, bg_up_ne]; omega), ?_⟩
                                         refine hX _ ?_; conv => whnf
                                         try (simp (disch := omega) only [bg_w_id, Int.toNat_natCast, rw_land, sh_land, not_true_eq_false, e121, ea, ebk, e7, h9, bg_up_ne]; try conv => whnf)
                                         refine ⟨by first | omega | (simp (disch := omega) only [bg_w_id, Int.toNat_natCast, rw_land, sh_land, not_true_eq_false, e121, ea, ebk, e7, h9, bg_up_ne]; omega), ?_⟩
                                         iterate 2 (refine hX _ ?_; conv => whnf)
                                         first
                                         | (exfalso; omega)
                                         | exact fin h2 _ _ _ (S q k + M g) (frN_M hf hf2) x7 x8 (by unfold ntV; rw [em, if_pos (by simp; omega)]) (by rw [if_pos (by omega)])
                                         | exact fin h2 _ _ _ (S q k + M g) (frN_M hf hf2) x7 x8 (by unfold ntV; rw [em, if_pos (by simp; omega)]) (by rw [y9, if_neg (by omega)])
                                         | exact fin h' _ _ _ 1000000 hf rfl rfl (by unfold ntV; rw [em, if_neg (by simp; omega)]) (by rw [if_neg (by omega)])
                                       · try simp (disch := omega) only [bg_w_id, Int.toNat_natCast, rw_land, sh_land, not_true_eq_false, e121, ea, ebk, e7, h9, bg_up_ne, kc0, kc1, kc2, kc3, kc4, kc5, kc6, kc7, kc8, kc9, kc10, kc11, kc12, kc13, kc14, kc15, kc16, kc17, kc18, kc19, kc20, kc21, kc22, kc23, kc24, kc25, kc26, kc27, kc28, kc29, kc30, kc31, kc32, kc33] at q233
                                         iterate 2 (refine hX _ ?_; conv => whnf)
                                         refine hX _ ?_; conv => whnf
                                         try (simp (disch := omega) only [bg_w_id, Int.toNat_natCast, rw_land, sh_land, not_true_eq_false, e121, ea, ebk, e7, h9, bg_up_ne]; try conv => whnf)
                                         refine ⟨by first | omega | (simp (disch := omega) only [bg_w_id, Int.toNat_natCast, rw_land, sh_land, not_true_eq_false, e121, ea, ebk, e7, h9, bg_up_ne]; omega), ?_⟩
                                         iterate 2 (refine hX _ ?_; conv => whnf)
                                         first
                                         | (exfalso; omega)
                                         | exact fin h2 _ _ _ (S q k + M g) (frN_M hf hf2) x7 x8 (by unfold ntV; rw [em, if_pos (by simp; omega)]) (by rw [if_pos (by omega)])
                                         | exact fin h2 _ _ _ (S q k + M g) (frN_M hf hf2) x7 x8 (by unfold ntV; rw [em, if_pos (by simp; omega)]) (by rw [y9, if_neg (by omega)])
                                         | exact fin h' _ _ _ 1000000 hf rfl rfl (by unfold ntV; rw [em, if_neg (by simp; omega)]) (by rw [if_neg (by omega)]))
                              · try simp (disch := omega) only [bg_w_id, Int.toNat_natCast, rw_land, sh_land, not_true_eq_false, e121, ea, ebk, e7, h9, bg_up_ne, kc0, kc1, kc2, kc3, kc4, kc5, kc6, kc7, kc8, kc9, kc10, kc11, kc12, kc13, kc14, kc15, kc16, kc17, kc18, kc19, kc20, kc21, kc22, kc23, kc24, kc25, kc26, kc27, kc28, kc29, kc30, kc31, kc32, kc33] at q146
                                refine hX _ ?_; conv => whnf
                                refine hX _ ?_; conv => whnf
                                try simp (disch := omega) only [bg_w_id, Int.toNat_natCast, rw_land, sh_land, not_true_eq_false, e121, ea, ebk, e7, h9, bg_up_ne]
                                refine s_mbits (d + 3) t (by omega) _ _ ?_
                                conv => whnf
                                refine hX _ ?_; conv => whnf
                                refine hX _ ?_; conv => whnf
                                refine ⟨fun q154 => ?_, fun q154 => ?_⟩
                                · try simp (disch := omega) only [bg_w_id, Int.toNat_natCast, rw_land, sh_land, not_true_eq_false, e121, ea, ebk, e7, h9, bg_up_ne, kc0, kc1, kc2, kc3, kc4, kc5, kc6, kc7, kc8, kc9, kc10, kc11, kc12, kc13, kc14, kc15, kc16, kc17, kc18, kc19, kc20, kc21, kc22, kc23, kc24, kc25, kc26, kc27, kc28, kc29, kc30, kc31, kc32, kc33] at q154
                                  iterate 3 (refine hX _ ?_; conv => whnf)
                                  refine hX _ ?_; conv => whnf
                                  refine ⟨fun q188 => ?_, fun q188 => ?_⟩
                                  · first
                                    | (exfalso; (try simp (disch := omega) only [bg_w_id, Int.toNat_natCast, rw_land, sh_land, not_true_eq_false, e121, ea, ebk, e7, h9, bg_up_ne, kc0, kc1, kc2, kc3, kc4, kc5, kc6, kc7, kc8, kc9, kc10, kc11, kc12, kc13, kc14, kc15, kc16, kc17, kc18, kc19, kc20, kc21, kc22, kc23, kc24, kc25, kc26, kc27, kc28, kc29, kc30, kc31, kc32, kc33] at q188) <;> omega)
                                    | (try simp (disch := omega) only [bg_w_id, Int.toNat_natCast, rw_land, sh_land, not_true_eq_false, e121, ea, ebk, e7, h9, bg_up_ne, kc0, kc1, kc2, kc3, kc4, kc5, kc6, kc7, kc8, kc9, kc10, kc11, kc12, kc13, kc14, kc15, kc16, kc17, kc18, kc19, kc20, kc21, kc22, kc23, kc24, kc25, kc26, kc27, kc28, kc29, kc30, kc31, kc32, kc33] at q188
                                       iterate 9 (refine hX _ ?_; conv => whnf)
                                       refine hX _ ?_; conv => whnf
                                       try (simp (disch := omega) only [bg_w_id, Int.toNat_natCast, rw_land, sh_land, not_true_eq_false, e121, ea, ebk, e7, h9, bg_up_ne]; try conv => whnf)
                                       refine ⟨by first | omega | (simp (disch := omega) only [bg_w_id, Int.toNat_natCast, rw_land, sh_land, not_true_eq_false, e121, ea, ebk, e7, h9, bg_up_ne]; omega), ?_⟩
                                       refine hX _ ?_; conv => whnf
                                       refine ⟨fun q233 => ?_, fun q233 => ?_⟩
                                       · try simp (disch := omega) only [bg_w_id, Int.toNat_natCast, rw_land, sh_land, not_true_eq_false, e121, ea, ebk, e7, h9, bg_up_ne, kc0, kc1, kc2, kc3, kc4, kc5, kc6, kc7, kc8, kc9, kc10, kc11, kc12, kc13, kc14, kc15, kc16, kc17, kc18, kc19, kc20, kc21, kc22, kc23, kc24, kc25, kc26, kc27, kc28, kc29, kc30, kc31, kc32, kc33] at q233
                                         iterate 3 (refine hX _ ?_; conv => whnf)
                                         refine hX _ ?_; conv => whnf
                                         try (simp (disch := omega) only [bg_w_id, Int.toNat_natCast, rw_land, sh_land, not_true_eq_false, e121, ea, ebk, e7, h9, bg_up_ne]; try conv => whnf)
                                         refine ⟨by first | omega | (simp (disch := omega) only [bg_w_id, Int.toNat_natCast, rw_land, sh_land, not_true_eq_false, e121, ea, ebk, e7, h9, bg_up_ne]; omega), ?_⟩
                                         refine hX _ ?_; conv => whnf
                                         try (simp (disch := omega) only [bg_w_id, Int.toNat_natCast, rw_land, sh_land, not_true_eq_false, e121, ea, ebk, e7, h9, bg_up_ne]; try conv => whnf)
                                         refine ⟨by first | omega | (simp (disch := omega) only [bg_w_id, Int.toNat_natCast, rw_land, sh_land, not_true_eq_false, e121, ea, ebk, e7, h9, bg_up_ne]; omega), ?_⟩
                                         iterate 2 (refine hX _ ?_; conv => whnf)
                                         first
                                         | (exfalso; omega)
                                         | exact fin h2 _ _ _ (S q k + M g) (frN_M hf hf2) x7 x8 (by unfold ntV; rw [em, if_pos (by simp; omega)]) (by rw [if_pos (by omega)])
                                         | exact fin h2 _ _ _ (S q k + M g) (frN_M hf hf2) x7 x8 (by unfold ntV; rw [em, if_pos (by simp; omega)]) (by rw [y9, if_neg (by omega)])
                                         | exact fin h' _ _ _ 1000000 hf rfl rfl (by unfold ntV; rw [em, if_neg (by simp; omega)]) (by rw [if_neg (by omega)])
                                       · try simp (disch := omega) only [bg_w_id, Int.toNat_natCast, rw_land, sh_land, not_true_eq_false, e121, ea, ebk, e7, h9, bg_up_ne, kc0, kc1, kc2, kc3, kc4, kc5, kc6, kc7, kc8, kc9, kc10, kc11, kc12, kc13, kc14, kc15, kc16, kc17, kc18, kc19, kc20, kc21, kc22, kc23, kc24, kc25, kc26, kc27, kc28, kc29, kc30, kc31, kc32, kc33] at q233
                                         iterate 2 (refine hX _ ?_; conv => whnf)
                                         refine hX _ ?_; conv => whnf
                                         try (simp (disch := omega) only [bg_w_id, Int.toNat_natCast, rw_land, sh_land, not_true_eq_false, e121, ea, ebk, e7, h9, bg_up_ne]; try conv => whnf)
                                         refine ⟨by first | omega | (simp (disch := omega) only [bg_w_id, Int.toNat_natCast, rw_land, sh_land, not_true_eq_false, e121, ea, ebk, e7, h9, bg_up_ne]; omega), ?_⟩
                                         iterate 2 (refine hX _ ?_; conv => whnf)
                                         first
                                         | (exfalso; omega)
                                         | exact fin h2 _ _ _ (S q k + M g) (frN_M hf hf2) x7 x8 (by unfold ntV; rw [em, if_pos (by simp; omega)]) (by rw [if_pos (by omega)])
                                         | exact fin h2 _ _ _ (S q k + M g) (frN_M hf hf2) x7 x8 (by unfold ntV; rw [em, if_pos (by simp; omega)]) (by rw [y9, if_neg (by omega)])
                                         | exact fin h' _ _ _ 1000000 hf rfl rfl (by unfold ntV; rw [em, if_neg (by simp; omega)]) (by rw [if_neg (by omega)]))
                                  · first
                                    | (exfalso; (try simp (disch := omega) only [bg_w_id, Int.toNat_natCast, rw_land, sh_land, not_true_eq_false, e121, ea, ebk, e7, h9, bg_up_ne, kc0, kc1, kc2, kc3, kc4, kc5, kc6, kc7, kc8, kc9, kc10, kc11, kc12, kc13, kc14, kc15, kc16, kc17, kc18, kc19, kc20, kc21, kc22, kc23, kc24, kc25, kc26, kc27, kc28, kc29, kc30, kc31, kc32, kc33] at q188) <;> omega)
                                    | (try simp (disch := omega) only [bg_w_id, Int.toNat_natCast, rw_land, sh_land, not_true_eq_false, e121, ea, ebk, e7, h9, bg_up_ne, kc0, kc1, kc2, kc3, kc4, kc5, kc6, kc7, kc8, kc9, kc10, kc11, kc12, kc13, kc14, kc15, kc16, kc17, kc18, kc19, kc20, kc21, kc22, kc23, kc24, kc25, kc26, kc27, kc28, kc29, kc30, kc31, kc32, kc33] at q188
                                       iterate 3 (refine hX _ ?_; conv => whnf)
                                       refine hX _ ?_; conv => whnf
                                       try (simp (disch := omega) only [bg_w_id, Int.toNat_natCast, rw_land, sh_land, not_true_eq_false, e121, ea, ebk, e7, h9, bg_up_ne]; try conv => whnf)
                                       refine ⟨by first | omega | (simp (disch := omega) only [bg_w_id, Int.toNat_natCast, rw_land, sh_land, not_true_eq_false, e121, ea, ebk, e7, h9, bg_up_ne]; omega), ?_⟩
                                       iterate 4 (refine hX _ ?_; conv => whnf)
                                       refine hX _ ?_; conv => whnf
                                       try (simp (disch := omega) only [bg_w_id, Int.toNat_natCast, rw_land, sh_land, not_true_eq_false, e121, ea, ebk, e7, h9, bg_up_ne]; try conv => whnf)
                                       refine ⟨by first | omega | (simp (disch := omega) only [bg_w_id, Int.toNat_natCast, rw_land, sh_land, not_true_eq_false, e121, ea, ebk, e7, h9, bg_up_ne]; omega), ?_⟩
                                       refine hX _ ?_; conv => whnf
                                       try simp (disch := omega) only [bg_w_id, Int.toNat_natCast, rw_land, sh_land, not_true_eq_false, e121, ea, ebk, e7, h9, bg_up_ne]
                                       refine s_mB d n _ (by omega) h' (frN_wf hf hg) (frN_S hf (by rw [← ea]; exact sg.1)) _ (fun h2 hf2 _ => ?_)
                                       rw [frN_most hf, ← ea, eM']
                                       have x7 := hf2.1 138 (by omega) (by omega) (by omega) (by omega) (by omega)
                                       have x8 := hf2.1 139 (by omega) (by omega) (by omega) (by omega) (by omega)
                                       have y9 : h2 139 g = ntF (mayM h dd) M (S q) g k := by rw [x8]; exact h9
                                       conv => whnf
                                       iterate 10 (refine hX _ ?_; conv => whnf)
                                       refine hX _ ?_; conv => whnf
                                       try (simp (disch := omega) only [bg_w_id, Int.toNat_natCast, rw_land, sh_land, not_true_eq_false, e121, ea, ebk, e7, h9, bg_up_ne]; try conv => whnf)
                                       refine ⟨by first | omega | (simp (disch := omega) only [bg_w_id, Int.toNat_natCast, rw_land, sh_land, not_true_eq_false, e121, ea, ebk, e7, h9, bg_up_ne]; omega), ?_⟩
                                       refine hX _ ?_; conv => whnf
                                       refine ⟨fun q233 => ?_, fun q233 => ?_⟩
                                       · try simp (disch := omega) only [bg_w_id, Int.toNat_natCast, rw_land, sh_land, not_true_eq_false, e121, ea, ebk, e7, h9, bg_up_ne, kc0, kc1, kc2, kc3, kc4, kc5, kc6, kc7, kc8, kc9, kc10, kc11, kc12, kc13, kc14, kc15, kc16, kc17, kc18, kc19, kc20, kc21, kc22, kc23, kc24, kc25, kc26, kc27, kc28, kc29, kc30, kc31, kc32, kc33] at q233
                                         iterate 3 (refine hX _ ?_; conv => whnf)
                                         refine hX _ ?_; conv => whnf
                                         try (simp (disch := omega) only [bg_w_id, Int.toNat_natCast, rw_land, sh_land, not_true_eq_false, e121, ea, ebk, e7, h9, bg_up_ne]; try conv => whnf)
                                         refine ⟨by first | omega | (simp (disch := omega) only [bg_w_id, Int.toNat_natCast, rw_land, sh_land, not_true_eq_false, e121, ea, ebk, e7, h9, bg_up_ne]; omega), ?_⟩
                                         refine hX _ ?_; conv => whnf
                                         try (simp (disch := omega) only [bg_w_id, Int.toNat_natCast, rw_land, sh_land, not_true_eq_false, e121, ea, ebk, e7, h9, bg_up_ne]; try conv => whnf)
                                         refine ⟨by first | omega | (simp (disch := omega) only [bg_w_id, Int.toNat_natCast, rw_land, sh_land, not_true_eq_false, e121, ea, ebk, e7, h9, bg_up_ne]; omega), ?_⟩
                                         iterate 2 (refine hX _ ?_; conv => whnf)
                                         first
                                         | (exfalso; omega)
                                         | exact fin h2 _ _ _ (S q k + M g) (frN_M hf hf2) x7 x8 (by unfold ntV; rw [em, if_pos (by simp; omega)]) (by rw [if_pos (by omega)])
                                         | exact fin h2 _ _ _ (S q k + M g) (frN_M hf hf2) x7 x8 (by unfold ntV; rw [em, if_pos (by simp; omega)]) (by rw [y9, if_neg (by omega)])
                                         | exact fin h' _ _ _ 1000000 hf rfl rfl (by unfold ntV; rw [em, if_neg (by simp; omega)]) (by rw [if_neg (by omega)])
                                       · try simp (disch := omega) only [bg_w_id, Int.toNat_natCast, rw_land, sh_land, not_true_eq_false, e121, ea, ebk, e7, h9, bg_up_ne, kc0, kc1, kc2, kc3, kc4, kc5, kc6, kc7, kc8, kc9, kc10, kc11, kc12, kc13, kc14, kc15, kc16, kc17, kc18, kc19, kc20, kc21, kc22, kc23, kc24, kc25, kc26, kc27, kc28, kc29, kc30, kc31, kc32, kc33] at q233
                                         iterate 2 (refine hX _ ?_; conv => whnf)
                                         refine hX _ ?_; conv => whnf
                                         try (simp (disch := omega) only [bg_w_id, Int.toNat_natCast, rw_land, sh_land, not_true_eq_false, e121, ea, ebk, e7, h9, bg_up_ne]; try conv => whnf)
                                         refine ⟨by first | omega | (simp (disch := omega) only [bg_w_id, Int.toNat_natCast, rw_land, sh_land, not_true_eq_false, e121, ea, ebk, e7, h9, bg_up_ne]; omega), ?_⟩
                                         iterate 2 (refine hX _ ?_; conv => whnf)
                                         first
                                         | (exfalso; omega)
                                         | exact fin h2 _ _ _ (S q k + M g) (frN_M hf hf2) x7 x8 (by unfold ntV; rw [em, if_pos (by simp; omega)]) (by rw [if_pos (by omega)])
                                         | exact fin h2 _ _ _ (S q k + M g) (frN_M hf hf2) x7 x8 (by unfold ntV; rw [em, if_pos (by simp; omega)]) (by rw [y9, if_neg (by omega)])
                                         | exact fin h' _ _ _ 1000000 hf rfl rfl (by unfold ntV; rw [em, if_neg (by simp; omega)]) (by rw [if_neg (by omega)]))
                                · try simp (disch := omega) only [bg_w_id, Int.toNat_natCast, rw_land, sh_land, not_true_eq_false, e121, ea, ebk, e7, h9, bg_up_ne, kc0, kc1, kc2, kc3, kc4, kc5, kc6, kc7, kc8, kc9, kc10, kc11, kc12, kc13, kc14, kc15, kc16, kc17, kc18, kc19, kc20, kc21, kc22, kc23, kc24, kc25, kc26, kc27, kc28, kc29, kc30, kc31, kc32, kc33] at q154
                                  iterate 3 (refine hX _ ?_; conv => whnf)
                                  refine hX _ ?_; conv => whnf
                                  try (simp (disch := omega) only [bg_w_id, Int.toNat_natCast, rw_land, sh_land, not_true_eq_false, e121, ea, ebk, e7, h9, bg_up_ne]; try conv => whnf)
                                  refine ⟨by first | omega | (simp (disch := omega) only [bg_w_id, Int.toNat_natCast, rw_land, sh_land, not_true_eq_false, e121, ea, ebk, e7, h9, bg_up_ne]; omega), ?_⟩
                                  iterate 3 (refine hX _ ?_; conv => whnf)
                                  refine hX _ ?_; conv => whnf
                                  try (simp (disch := omega) only [bg_w_id, Int.toNat_natCast, rw_land, sh_land, not_true_eq_false, e121, ea, ebk, e7, h9, bg_up_ne]; try conv => whnf)
                                  refine ⟨by first | omega | (simp (disch := omega) only [bg_w_id, Int.toNat_natCast, rw_land, sh_land, not_true_eq_false, e121, ea, ebk, e7, h9, bg_up_ne]; omega), ?_⟩
                                  refine hX _ ?_; conv => whnf
                                  refine hX _ ?_; conv => whnf
                                  try simp (disch := omega) only [bg_w_id, Int.toNat_natCast, rw_land, sh_land, not_true_eq_false, e121, ea, ebk, e7, h9, bg_up_ne]
                                  rw [exr]
                                  refine s_mbits (d + 3) _ hx _ _ ?_
                                  conv => whnf
                                  refine hX _ ?_; conv => whnf
                                  refine hX _ ?_; conv => whnf
                                  refine ⟨fun q176 => ?_, fun q176 => ?_⟩
                                  · try simp (disch := omega) only [bg_w_id, Int.toNat_natCast, rw_land, sh_land, not_true_eq_false, e121, ea, ebk, e7, h9, bg_up_ne, kc0, kc1, kc2, kc3, kc4, kc5, kc6, kc7, kc8, kc9, kc10, kc11, kc12, kc13, kc14, kc15, kc16, kc17, kc18, kc19, kc20, kc21, kc22, kc23, kc24, kc25, kc26, kc27, kc28, kc29, kc30, kc31, kc32, kc33] at q176
                                    iterate 3 (refine hX _ ?_; conv => whnf)
                                    refine hX _ ?_; conv => whnf
                                    refine ⟨fun q188 => ?_, fun q188 => ?_⟩
                                    · first
                                      | (exfalso; (try simp (disch := omega) only [bg_w_id, Int.toNat_natCast, rw_land, sh_land, not_true_eq_false, e121, ea, ebk, e7, h9, bg_up_ne, kc0, kc1, kc2, kc3, kc4, kc5, kc6, kc7, kc8, kc9, kc10, kc11, kc12, kc13, kc14, kc15, kc16, kc17, kc18, kc19, kc20, kc21, kc22, kc23, kc24, kc25, kc26, kc27, kc28, kc29, kc30, kc31, kc32, kc33] at q188) <;> omega)
                                      | (try simp (disch := omega) only [bg_w_id, Int.toNat_natCast, rw_land, sh_land, not_true_eq_false, e121, ea, ebk, e7, h9, bg_up_ne, kc0, kc1, kc2, kc3, kc4, kc5, kc6, kc7, kc8, kc9, kc10, kc11, kc12, kc13, kc14, kc15, kc16, kc17, kc18, kc19, kc20, kc21, kc22, kc23, kc24, kc25, kc26, kc27, kc28, kc29, kc30, kc31, kc32, kc33] at q188
                                         iterate 9 (refine hX _ ?_; conv => whnf)
                                         refine hX _ ?_; conv => whnf
                                         try (simp (disch := omega) only [bg_w_id, Int.toNat_natCast, rw_land, sh_land, not_true_eq_false, e121, ea, ebk, e7, h9, bg_up_ne]; try conv => whnf)
                                         refine ⟨by first | omega | (simp (disch := omega) only [bg_w_id, Int.toNat_natCast, rw_land, sh_land, not_true_eq_false, e121, ea, ebk, e7, h9, bg_up_ne]; omega), ?_⟩
                                         refine hX _ ?_; conv => whnf
                                         refine ⟨fun q233 => ?_, fun q233 => ?_⟩
                                         · try simp (disch := omega) only [bg_w_id, Int.toNat_natCast, rw_land, sh_land, not_true_eq_false, e121, ea, ebk, e7, h9, bg_up_ne, kc0, kc1, kc2, kc3, kc4, kc5, kc6, kc7, kc8, kc9, kc10, kc11, kc12, kc13, kc14, kc15, kc16, kc17, kc18, kc19, kc20, kc21, kc22, kc23, kc24, kc25, kc26, kc27, kc28, kc29, kc30, kc31, kc32, kc33] at q233
                                           iterate 3 (refine hX _ ?_; conv => whnf)
                                           refine hX _ ?_; conv => whnf
                                           try (simp (disch := omega) only [bg_w_id, Int.toNat_natCast, rw_land, sh_land, not_true_eq_false, e121, ea, ebk, e7, h9, bg_up_ne]; try conv => whnf)
                                           refine ⟨by first | omega | (simp (disch := omega) only [bg_w_id, Int.toNat_natCast, rw_land, sh_land, not_true_eq_false, e121, ea, ebk, e7, h9, bg_up_ne]; omega), ?_⟩
                                           refine hX _ ?_; conv => whnf
                                           try (simp (disch := omega) only [bg_w_id, Int.toNat_natCast, rw_land, sh_land, not_true_eq_false, e121, ea, ebk, e7, h9, bg_up_ne]; try conv => whnf)
                                           refine ⟨by first | omega | (simp (disch := omega) only [bg_w_id, Int.toNat_natCast, rw_land, sh_land, not_true_eq_false, e121, ea, ebk, e7, h9, bg_up_ne]; omega), ?_⟩
                                           iterate 2 (refine hX _ ?_; conv => whnf)
                                           first
                                           | (exfalso; omega)
                                           | exact fin h2 _ _ _ (S q k + M g) (frN_M hf hf2) x7 x8 (by unfold ntV; rw [em, if_pos (by simp; omega)]) (by rw [if_pos (by omega)])
                                           | exact fin h2 _ _ _ (S q k + M g) (frN_M hf hf2) x7 x8 (by unfold ntV; rw [em, if_pos (by simp; omega)]) (by rw [y9, if_neg (by omega)])
                                           | exact fin h' _ _ _ 1000000 hf rfl rfl (by unfold ntV; rw [em, if_neg (by simp; omega)]) (by rw [if_neg (by omega)])
                                         · try simp (disch := omega) only [bg_w_id, Int.toNat_natCast, rw_land, sh_land, not_true_eq_false, e121, ea, ebk, e7, h9, bg_up_ne, kc0, kc1, kc2, kc3, kc4, kc5, kc6, kc7, kc8, kc9, kc10, kc11, kc12, kc13, kc14, kc15, kc16, kc17, kc18, kc19, kc20, kc21, kc22, kc23, kc24, kc25, kc26, kc27, kc28, kc29, kc30, kc31, kc32, kc33] at q233
                                           iterate 2 (refine hX _ ?_; conv => whnf)
                                           refine hX _ ?_; conv => whnf
                                           try (simp (disch := omega) only [bg_w_id, Int.toNat_natCast, rw_land, sh_land, not_true_eq_false, e121, ea, ebk, e7, h9, bg_up_ne]; try conv => whnf)
                                           refine ⟨by first | omega | (simp (disch := omega) only [bg_w_id, Int.toNat_natCast, rw_land, sh_land, not_true_eq_false, e121, ea, ebk, e7, h9, bg_up_ne]; omega), ?_⟩
                                           iterate 2 (refine hX _ ?_; conv => whnf)
                                           first
                                           | (exfalso; omega)
                                           | exact fin h2 _ _ _ (S q k + M g) (frN_M hf hf2) x7 x8 (by unfold ntV; rw [em, if_pos (by simp; omega)]) (by rw [if_pos (by omega)])
                                           | exact fin h2 _ _ _ (S q k + M g) (frN_M hf hf2) x7 x8 (by unfold ntV; rw [em, if_pos (by simp; omega)]) (by rw [y9, if_neg (by omega)])
                                           | exact fin h' _ _ _ 1000000 hf rfl rfl (by unfold ntV; rw [em, if_neg (by simp; omega)]) (by rw [if_neg (by omega)]))
                                    · first
                                      | (exfalso; (try simp (disch := omega) only [bg_w_id, Int.toNat_natCast, rw_land, sh_land, not_true_eq_false, e121, ea, ebk, e7, h9, bg_up_ne, kc0, kc1, kc2, kc3, kc4, kc5, kc6, kc7, kc8, kc9, kc10, kc11, kc12, kc13, kc14, kc15, kc16, kc17, kc18, kc19, kc20, kc21, kc22, kc23, kc24, kc25, kc26, kc27, kc28, kc29, kc30, kc31, kc32, kc33] at q188) <;> omega)
                                      | (try simp (disch := omega) only [bg_w_id, Int.toNat_natCast, rw_land, sh_land, not_true_eq_false, e121, ea, ebk, e7, h9, bg_up_ne, kc0, kc1, kc2, kc3, kc4, kc5, kc6, kc7, kc8, kc9, kc10, kc11, kc12, kc13, kc14, kc15, kc16, kc17, kc18, kc19, kc20, kc21, kc22, kc23, kc24, kc25, kc26, kc27, kc28, kc29, kc30, kc31, kc32, kc33] at q188
                                         iterate 3 (refine hX _ ?_; conv => whnf)
                                         refine hX _ ?_; conv => whnf
                                         try (simp (disch := omega) only [bg_w_id, Int.toNat_natCast, rw_land, sh_land, not_true_eq_false, e121, ea, ebk, e7, h9, bg_up_ne]; try conv => whnf)
                                         refine ⟨by first | omega | (simp (disch := omega) only [bg_w_id, Int.toNat_natCast, rw_land, sh_land, not_true_eq_false, e121, ea, ebk, e7, h9, bg_up_ne]; omega), ?_⟩
                                         iterate 4 (refine hX _ ?_; conv => whnf)
                                         refine hX _ ?_; conv => whnf
                                         try (simp (disch := omega) only [bg_w_id, Int.toNat_natCast, rw_land, sh_land, not_true_eq_false, e121, ea, ebk, e7, h9, bg_up_ne]; try conv => whnf)
                                         refine ⟨by first | omega | (simp (disch := omega) only [bg_w_id, Int.toNat_natCast, rw_land, sh_land, not_true_eq_false, e121, ea, ebk, e7, h9, bg_up_ne]; omega), ?_⟩
                                         refine hX _ ?_; conv => whnf
                                         try simp (disch := omega) only [bg_w_id, Int.toNat_natCast, rw_land, sh_land, not_true_eq_false, e121, ea, ebk, e7, h9, bg_up_ne]
                                         refine s_mB d n _ (by omega) h' (frN_wf hf hg) (frN_S hf (by rw [← ea]; exact sg.1)) _ (fun h2 hf2 _ => ?_)
                                         rw [frN_most hf, ← ea, eM']
                                         have x7 := hf2.1 138 (by omega) (by omega) (by omega) (by omega) (by omega)
                                         have x8 := hf2.1 139 (by omega) (by omega) (by omega) (by omega) (by omega)
                                         have y9 : h2 139 g = ntF (mayM h dd) M (S q) g k := by rw [x8]; exact h9
                                         conv => whnf
                                         iterate 10 (refine hX _ ?_; conv => whnf)
                                         refine hX _ ?_; conv => whnf
                                         try (simp (disch := omega) only [bg_w_id, Int.toNat_natCast, rw_land, sh_land, not_true_eq_false, e121, ea, ebk, e7, h9, bg_up_ne]; try conv => whnf)
                                         refine ⟨by first | omega | (simp (disch := omega) only [bg_w_id, Int.toNat_natCast, rw_land, sh_land, not_true_eq_false, e121, ea, ebk, e7, h9, bg_up_ne]; omega), ?_⟩
                                         refine hX _ ?_; conv => whnf
                                         refine ⟨fun q233 => ?_, fun q233 => ?_⟩
                                         · try simp (disch := omega) only [bg_w_id, Int.toNat_natCast, rw_land, sh_land, not_true_eq_false, e121, ea, ebk, e7, h9, bg_up_ne, kc0, kc1, kc2, kc3, kc4, kc5, kc6, kc7, kc8, kc9, kc10, kc11, kc12, kc13, kc14, kc15, kc16, kc17, kc18, kc19, kc20, kc21, kc22, kc23, kc24, kc25, kc26, kc27, kc28, kc29, kc30, kc31, kc32, kc33] at q233
                                           iterate 3 (refine hX _ ?_; conv => whnf)
                                           refine hX _ ?_; conv => whnf
                                           try (simp (disch := omega) only [bg_w_id, Int.toNat_natCast, rw_land, sh_land, not_true_eq_false, e121, ea, ebk, e7, h9, bg_up_ne]; try conv => whnf)
                                           refine ⟨by first | omega | (simp (disch := omega) only [bg_w_id, Int.toNat_natCast, rw_land, sh_land, not_true_eq_false, e121, ea, ebk, e7, h9, bg_up_ne]; omega), ?_⟩
                                           refine hX _ ?_; conv => whnf
                                           try (simp (disch := omega) only [bg_w_id, Int.toNat_natCast, rw_land, sh_land, not_true_eq_false, e121, ea, ebk, e7, h9, bg_up_ne]; try conv => whnf)
                                           refine ⟨by first | omega | (simp (disch := omega) only [bg_w_id, Int.toNat_natCast, rw_land, sh_land, not_true_eq_false, e121, ea, ebk, e7, h9, bg_up_ne]; omega), ?_⟩
                                           iterate 2 (refine hX _ ?_; conv => whnf)
                                           first
                                           | (exfalso; omega)
                                           | exact fin h2 _ _ _ (S q k + M g) (frN_M hf hf2) x7 x8 (by unfold ntV; rw [em, if_pos (by simp; omega)]) (by rw [if_pos (by omega)])
                                           | exact fin h2 _ _ _ (S q k + M g) (frN_M hf hf2) x7 x8 (by unfold ntV; rw [em, if_pos (by simp; omega)]) (by rw [y9, if_neg (by omega)])
                                           | exact fin h' _ _ _ 1000000 hf rfl rfl (by unfold ntV; rw [em, if_neg (by simp; omega)]) (by rw [if_neg (by omega)])
                                         · try simp (disch := omega) only [bg_w_id, Int.toNat_natCast, rw_land, sh_land, not_true_eq_false, e121, ea, ebk, e7, h9, bg_up_ne, kc0, kc1, kc2, kc3, kc4, kc5, kc6, kc7, kc8, kc9, kc10, kc11, kc12, kc13, kc14, kc15, kc16, kc17, kc18, kc19, kc20, kc21, kc22, kc23, kc24, kc25, kc26, kc27, kc28, kc29, kc30, kc31, kc32, kc33] at q233
                                           iterate 2 (refine hX _ ?_; conv => whnf)
                                           refine hX _ ?_; conv => whnf
                                           try (simp (disch := omega) only [bg_w_id, Int.toNat_natCast, rw_land, sh_land, not_true_eq_false, e121, ea, ebk, e7, h9, bg_up_ne]; try conv => whnf)
                                           refine ⟨by first | omega | (simp (disch := omega) only [bg_w_id, Int.toNat_natCast, rw_land, sh_land, not_true_eq_false, e121, ea, ebk, e7, h9, bg_up_ne]; omega), ?_⟩
                                           iterate 2 (refine hX _ ?_; conv => whnf)
                                           first
                                           | (exfalso; omega)
                                           | exact fin h2 _ _ _ (S q k + M g) (frN_M hf hf2) x7 x8 (by unfold ntV; rw [em, if_pos (by simp; omega)]) (by rw [if_pos (by omega)])
                                           | exact fin h2 _ _ _ (S q k + M g) (frN_M hf hf2) x7 x8 (by unfold ntV; rw [em, if_pos (by simp; omega)]) (by rw [y9, if_neg (by omega)])
                                           | exact fin h' _ _ _ 1000000 hf rfl rfl (by unfold ntV; rw [em, if_neg (by simp; omega)]) (by rw [if_neg (by omega)]))
                                  · try simp (disch := omega) only [bg_w_id, Int.toNat_natCast, rw_land, sh_land, not_true_eq_false, e121, ea, ebk, e7, h9, bg_up_ne, kc0, kc1, kc2, kc3, kc4, kc5, kc6, kc7, kc8, kc9, kc10, kc11, kc12, kc13, kc14, kc15, kc16, kc17, kc18, kc19, kc20, kc21, kc22, kc23, kc24, kc25, kc26, kc27, kc28, kc29, kc30, kc31, kc32, kc33] at q176
                                    iterate 4 (refine hX _ ?_; conv => whnf)
                                    refine hX _ ?_; conv => whnf
                                    refine ⟨fun q188 => ?_, fun q188 => ?_⟩
                                    · first
                                      | (exfalso; (try simp (disch := omega) only [bg_w_id, Int.toNat_natCast, rw_land, sh_land, not_true_eq_false, e121, ea, ebk, e7, h9, bg_up_ne, kc0, kc1, kc2, kc3, kc4, kc5, kc6, kc7, kc8, kc9, kc10, kc11, kc12, kc13, kc14, kc15, kc16, kc17, kc18, kc19, kc20, kc21, kc22, kc23, kc24, kc25, kc26, kc27, kc28, kc29, kc30, kc31, kc32, kc33] at q188) <;> omega)
                                      | (try simp (disch := omega) only [bg_w_id, Int.toNat_natCast, rw_land, sh_land, not_true_eq_false, e121, ea, ebk, e7, h9, bg_up_ne, kc0, kc1, kc2, kc3, kc4, kc5, kc6, kc7, kc8, kc9, kc10, kc11, kc12, kc13, kc14, kc15, kc16, kc17, kc18, kc19, kc20, kc21, kc22, kc23, kc24, kc25, kc26, kc27, kc28, kc29, kc30, kc31, kc32, kc33] at q188
                                         iterate 9 (refine hX _ ?_; conv => whnf)
                                         refine hX _ ?_; conv => whnf
                                         try (simp (disch := omega) only [bg_w_id, Int.toNat_natCast, rw_land, sh_land, not_true_eq_false, e121, ea, ebk, e7, h9, bg_up_ne]; try conv => whnf)
                                         refine ⟨by first | omega | (simp (disch := omega) only [bg_w_id, Int.toNat_natCast, rw_land, sh_land, not_true_eq_false, e121, ea, ebk, e7, h9, bg_up_ne]; omega), ?_⟩
                                         refine hX _ ?_; conv => whnf
                                         refine ⟨fun q233 => ?_, fun q233 => ?_⟩
                                         · try simp (disch := omega) only [bg_w_id, Int.toNat_natCast, rw_land, sh_land, not_true_eq_false, e121, ea, ebk, e7, h9, bg_up_ne, kc0, kc1, kc2, kc3, kc4, kc5, kc6, kc7, kc8, kc9, kc10, kc11, kc12, kc13, kc14, kc15, kc16, kc17, kc18, kc19, kc20, kc21, kc22, kc23, kc24, kc25, kc26, kc27, kc28, kc29, kc30, kc31, kc32, kc33] at q233
                                           iterate 3 (refine hX _ ?_; conv => whnf)
                                           refine hX _ ?_; conv => whnf
                                           try (simp (disch := omega) only [bg_w_id, Int.toNat_natCast, rw_land, sh_land, not_true_eq_false, e121, ea, ebk, e7, h9, bg_up_ne]; try conv => whnf)
                                           refine ⟨by first | omega | (simp (disch := omega) only [bg_w_id, Int.toNat_natCast, rw_land, sh_land, not_true_eq_false, e121, ea, ebk, e7, h9, bg_up_ne]; omega), ?_⟩
                                           refine hX _ ?_; conv => whnf
                                           try (simp (disch := omega) only [bg_w_id, Int.toNat_natCast, rw_land, sh_land, not_true_eq_false, e121, ea, ebk, e7, h9, bg_up_ne]; try conv => whnf)
                                           refine ⟨by first | omega | (simp (disch := omega) only [bg_w_id, Int.toNat_natCast, rw_land, sh_land, not_true_eq_false, e121, ea, ebk, e7, h9, bg_up_ne]; omega), ?_⟩
                                           iterate 2 (refine hX _ ?_; conv => whnf)
                                           first
                                           | (exfalso; omega)
                                           | exact fin h2 _ _ _ (S q k + M g) (frN_M hf hf2) x7 x8 (by unfold ntV; rw [em, if_pos (by simp; omega)]) (by rw [if_pos (by omega)])
                                           | exact fin h2 _ _ _ (S q k + M g) (frN_M hf hf2) x7 x8 (by unfold ntV; rw [em, if_pos (by simp; omega)]) (by rw [y9, if_neg (by omega)])
                                           | exact fin h' _ _ _ 1000000 hf rfl rfl (by unfold ntV; rw [em, if_neg (by simp; omega)]) (by rw [if_neg (by omega)])
                                         · try simp (disch := omega) only [bg_w_id, Int.toNat_natCast, rw_land, sh_land, not_true_eq_false, e121, ea, ebk, e7, h9, bg_up_ne, kc0, kc1, kc2, kc3, kc4, kc5, kc6, kc7, kc8, kc9, kc10, kc11, kc12, kc13, kc14, kc15, kc16, kc17, kc18, kc19, kc20, kc21, kc22, kc23, kc24, kc25, kc26, kc27, kc28, kc29, kc30, kc31, kc32, kc33] at q233
                                           iterate 2 (refine hX _ ?_; conv => whnf)
                                           refine hX _ ?_; conv => whnf
                                           try (simp (disch := omega) only [bg_w_id, Int.toNat_natCast, rw_land, sh_land, not_true_eq_false, e121, ea, ebk, e7, h9, bg_up_ne]; try conv => whnf)
                                           refine ⟨by first | omega | (simp (disch := omega) only [bg_w_id, Int.toNat_natCast, rw_land, sh_land, not_true_eq_false, e121, ea, ebk, e7, h9, bg_up_ne]; omega), ?_⟩
                                           iterate 2 (refine hX _ ?_; conv => whnf)
                                           first
                                           | (exfalso; omega)
                                           | exact fin h2 _ _ _ (S q k + M g) (frN_M hf hf2) x7 x8 (by unfold ntV; rw [em, if_pos (by simp; omega)]) (by rw [if_pos (by omega)])
                                           | exact fin h2 _ _ _ (S q k + M g) (frN_M hf hf2) x7 x8 (by unfold ntV; rw [em, if_pos (by simp; omega)]) (by rw [y9, if_neg (by omega)])
                                           | exact fin h' _ _ _ 1000000 hf rfl rfl (by unfold ntV; rw [em, if_neg (by simp; omega)]) (by rw [if_neg (by omega)]))
                                    · first
                                      | (exfalso; (try simp (disch := omega) only [bg_w_id, Int.toNat_natCast, rw_land, sh_land, not_true_eq_false, e121, ea, ebk, e7, h9, bg_up_ne, kc0, kc1, kc2, kc3, kc4, kc5, kc6, kc7, kc8, kc9, kc10, kc11, kc12, kc13, kc14, kc15, kc16, kc17, kc18, kc19, kc20, kc21, kc22, kc23, kc24, kc25, kc26, kc27, kc28, kc29, kc30, kc31, kc32, kc33] at q188) <;> omega)
                                      | (try simp (disch := omega) only [bg_w_id, Int.toNat_natCast, rw_land, sh_land, not_true_eq_false, e121, ea, ebk, e7, h9, bg_up_ne, kc0, kc1, kc2, kc3, kc4, kc5, kc6, kc7, kc8, kc9, kc10, kc11, kc12, kc13, kc14, kc15, kc16, kc17, kc18, kc19, kc20, kc21, kc22, kc23, kc24, kc25, kc26, kc27, kc28, kc29, kc30, kc31, kc32, kc33] at q188
                                         iterate 3 (refine hX _ ?_; conv => whnf)
                                         refine hX _ ?_; conv => whnf
                                         try (simp (disch := omega) only [bg_w_id, Int.toNat_natCast, rw_land, sh_land, not_true_eq_false, e121, ea, ebk, e7, h9, bg_up_ne]; try conv => whnf)
                                         refine ⟨by first | omega | (simp (disch := omega) only [bg_w_id, Int.toNat_natCast, rw_land, sh_land, not_true_eq_false, e121, ea, ebk, e7, h9, bg_up_ne]; omega), ?_⟩
                                         iterate 4 (refine hX _ ?_; conv => whnf)
                                         refine hX _ ?_; conv => whnf
                                         try (simp (disch := omega) only [bg_w_id, Int.toNat_natCast, rw_land, sh_land, not_true_eq_false, e121, ea, ebk, e7, h9, bg_up_ne]; try conv => whnf)
                                         refine ⟨by first | omega | (simp (disch := omega) only [bg_w_id, Int.toNat_natCast, rw_land, sh_land, not_true_eq_false, e121, ea, ebk, e7, h9, bg_up_ne]; omega), ?_⟩
                                         refine hX _ ?_; conv => whnf
                                         try simp (disch := omega) only [bg_w_id, Int.toNat_natCast, rw_land, sh_land, not_true_eq_false, e121, ea, ebk, e7, h9, bg_up_ne]
                                         refine s_mB d n _ (by omega) h' (frN_wf hf hg) (frN_S hf (by rw [← ea]; exact sg.1)) _ (fun h2 hf2 _ => ?_)
                                         rw [frN_most hf, ← ea, eM']
                                         have x7 := hf2.1 138 (by omega) (by omega) (by omega) (by omega) (by omega)
                                         have x8 := hf2.1 139 (by omega) (by omega) (by omega) (by omega) (by omega)
                                         have y9 : h2 139 g = ntF (mayM h dd) M (S q) g k := by rw [x8]; exact h9
                                         conv => whnf
                                         iterate 10 (refine hX _ ?_; conv => whnf)
                                         refine hX _ ?_; conv => whnf
                                         try (simp (disch := omega) only [bg_w_id, Int.toNat_natCast, rw_land, sh_land, not_true_eq_false, e121, ea, ebk, e7, h9, bg_up_ne]; try conv => whnf)
                                         refine ⟨by first | omega | (simp (disch := omega) only [bg_w_id, Int.toNat_natCast, rw_land, sh_land, not_true_eq_false, e121, ea, ebk, e7, h9, bg_up_ne]; omega), ?_⟩
                                         refine hX _ ?_; conv => whnf
                                         refine ⟨fun q233 => ?_, fun q233 => ?_⟩
                                         · try simp (disch := omega) only [bg_w_id, Int.toNat_natCast, rw_land, sh_land, not_true_eq_false, e121, ea, ebk, e7, h9, bg_up_ne, kc0, kc1, kc2, kc3, kc4, kc5, kc6, kc7, kc8, kc9, kc10, kc11, kc12, kc13, kc14, kc15, kc16, kc17, kc18, kc19, kc20, kc21, kc22, kc23, kc24, kc25, kc26, kc27, kc28, kc29, kc30, kc31, kc32, kc33] at q233
                                           iterate 3 (refine hX _ ?_; conv => whnf)
                                           refine hX _ ?_; conv => whnf
                                           try (simp (disch := omega) only [bg_w_id, Int.toNat_natCast, rw_land, sh_land, not_true_eq_false, e121, ea, ebk, e7, h9, bg_up_ne]; try conv => whnf)
                                           refine ⟨by first | omega | (simp (disch := omega) only [bg_w_id, Int.toNat_natCast, rw_land, sh_land, not_true_eq_false, e121, ea, ebk, e7, h9, bg_up_ne]; omega), ?_⟩
                                           refine hX _ ?_; conv => whnf
                                           try (simp (disch := omega) only [bg_w_id, Int.toNat_natCast, rw_land, sh_land, not_true_eq_false, e121, ea, ebk, e7, h9, bg_up_ne]; try conv => whnf)
                                           refine ⟨by first | omega | (simp (disch := omega) only [bg_w_id, Int.toNat_natCast, rw_land, sh_land, not_true_eq_false, e121, ea, ebk, e7, h9, bg_up_ne]; omega), ?_⟩
                                           iterate 2 (refine hX _ ?_; conv => whnf)
                                           first
                                           | (exfalso; omega)
                                           | exact fin h2 _ _ _ (S q k + M g) (frN_M hf hf2) x7 x8 (by unfold ntV; rw [em, if_pos (by simp; omega)]) (by rw [if_pos (by omega)])
                                           | exact fin h2 _ _ _ (S q k + M g) (frN_M hf hf2) x7 x8 (by unfold ntV; rw [em, if_pos (by simp; omega)]) (by rw [y9, if_neg (by omega)])
                                           | exact fin h' _ _ _ 1000000 hf rfl rfl (by unfold ntV; rw [em, if_neg (by simp; omega)]) (by rw [if_neg (by omega)])
                                         · try simp (disch := omega) only [bg_w_id, Int.toNat_natCast, rw_land, sh_land, not_true_eq_false, e121, ea, ebk, e7, h9, bg_up_ne, kc0, kc1, kc2, kc3, kc4, kc5, kc6, kc7, kc8, kc9, kc10, kc11, kc12, kc13, kc14, kc15, kc16, kc17, kc18, kc19, kc20, kc21, kc22, kc23, kc24, kc25, kc26, kc27, kc28, kc29, kc30, kc31, kc32, kc33] at q233
                                           iterate 2 (refine hX _ ?_; conv => whnf)
                                           refine hX _ ?_; conv => whnf
                                           try (simp (disch := omega) only [bg_w_id, Int.toNat_natCast, rw_land, sh_land, not_true_eq_false, e121, ea, ebk, e7, h9, bg_up_ne]; try conv => whnf)
                                           refine ⟨by first | omega | (simp (disch := omega) only [bg_w_id, Int.toNat_natCast, rw_land, sh_land, not_true_eq_false, e121, ea, ebk, e7, h9, bg_up_ne]; omega), ?_⟩
                                           iterate 2 (refine hX _ ?_; conv => whnf)
                                           first
                                           | (exfalso; omega)
                                           | exact fin h2 _ _ _ (S q k + M g) (frN_M hf hf2) x7 x8 (by unfold ntV; rw [em, if_pos (by simp; omega)]) (by rw [if_pos (by omega)])
                                           | exact fin h2 _ _ _ (S q k + M g) (frN_M hf hf2) x7 x8 (by unfold ntV; rw [em, if_pos (by simp; omega)]) (by rw [y9, if_neg (by omega)])
                                           | exact fin h' _ _ _ 1000000 hf rfl rfl (by unfold ntV; rw [em, if_neg (by simp; omega)]) (by rw [if_neg (by omega)]))
                      · rw [if_neg c5] at ek
                        have em : mayM h dd g k = false := by
                          unfold mayM
                          simp [c5]
                        iterate 2 (refine hX _ ?_; conv => whnf)
                        refine hX _ ?_; conv => whnf
                        refine ⟨fun q121 => ?_, fun q121 => ?_⟩
                        · exfalso
                          (try simp (disch := omega) only [bg_w_id, Int.toNat_natCast, rw_land, sh_land, not_true_eq_false, e121, h9, bg_up_ne, kc0, kc1, kc2, kc3, kc4, kc5, kc6, kc7, kc8, kc9, kc10, kc11, kc12, kc13, kc14, kc15, kc16, kc17, kc18, kc19, kc20, kc21, kc22, kc23, kc24, kc25, kc26, kc27, kc28, kc29, kc30, kc31, kc32, kc33] at q121) <;> (omega)
                        · try simp (disch := omega) only [bg_w_id, Int.toNat_natCast, rw_land, sh_land, not_true_eq_false, e121, h9, bg_up_ne, kc0, kc1, kc2, kc3, kc4, kc5, kc6, kc7, kc8, kc9, kc10, kc11, kc12, kc13, kc14, kc15, kc16, kc17, kc18, kc19, kc20, kc21, kc22, kc23, kc24, kc25, kc26, kc27, kc28, kc29, kc30, kc31, kc32, kc33] at q121
                          iterate 2 (refine hX _ ?_; conv => whnf)
                          refine hX _ ?_; conv => whnf
                          try simp (disch := omega) only [bg_w_id, Int.toNat_natCast, rw_land, sh_land, not_true_eq_false, e121, h9, bg_up_ne]
                          refine s_has (d + 3) _ _ _ _ ?_
                          rw [eb]
                          conv => whnf
                          refine hX _ ?_; conv => whnf
                          refine ⟨fun q130 => ?_, fun q130 => ?_⟩
                          · exfalso
                            (try simp (disch := omega) only [bg_w_id, Int.toNat_natCast, rw_land, sh_land, not_true_eq_false, e121, h9, bg_up_ne, kc0, kc1, kc2, kc3, kc4, kc5, kc6, kc7, kc8, kc9, kc10, kc11, kc12, kc13, kc14, kc15, kc16, kc17, kc18, kc19, kc20, kc21, kc22, kc23, kc24, kc25, kc26, kc27, kc28, kc29, kc30, kc31, kc32, kc33] at q130) <;> (omega)
                          · try simp (disch := omega) only [bg_w_id, Int.toNat_natCast, rw_land, sh_land, not_true_eq_false, e121, h9, bg_up_ne, kc0, kc1, kc2, kc3, kc4, kc5, kc6, kc7, kc8, kc9, kc10, kc11, kc12, kc13, kc14, kc15, kc16, kc17, kc18, kc19, kc20, kc21, kc22, kc23, kc24, kc25, kc26, kc27, kc28, kc29, kc30, kc31, kc32, kc33] at q130
                            iterate 2 (refine hX _ ?_; conv => whnf)
                            refine hX _ ?_; conv => whnf
                            try simp (disch := omega) only [bg_w_id, Int.toNat_natCast, rw_land, sh_land, not_true_eq_false, e121, h9, bg_up_ne]
                            refine s_has (d + 3) _ _ _ _ ?_
                            rw [ek]
                            conv => whnf
                            refine hX _ ?_; conv => whnf
                            refine ⟨fun q139 => ?_, fun q139 => ?_⟩
                            · try simp (disch := omega) only [bg_w_id, Int.toNat_natCast, rw_land, sh_land, not_true_eq_false, e121, h9, bg_up_ne, kc0, kc1, kc2, kc3, kc4, kc5, kc6, kc7, kc8, kc9, kc10, kc11, kc12, kc13, kc14, kc15, kc16, kc17, kc18, kc19, kc20, kc21, kc22, kc23, kc24, kc25, kc26, kc27, kc28, kc29, kc30, kc31, kc32, kc33] at q139
                              iterate 3 (refine hX _ ?_; conv => whnf)
                              refine hX _ ?_; conv => whnf
                              refine ⟨fun q188 => ?_, fun q188 => ?_⟩
                              · try simp (disch := omega) only [bg_w_id, Int.toNat_natCast, rw_land, sh_land, not_true_eq_false, e121, h9, bg_up_ne, kc0, kc1, kc2, kc3, kc4, kc5, kc6, kc7, kc8, kc9, kc10, kc11, kc12, kc13, kc14, kc15, kc16, kc17, kc18, kc19, kc20, kc21, kc22, kc23, kc24, kc25, kc26, kc27, kc28, kc29, kc30, kc31, kc32, kc33] at q188
                                iterate 9 (refine hX _ ?_; conv => whnf)
                                refine hX _ ?_; conv => whnf
                                try (simp (disch := omega) only [bg_w_id, Int.toNat_natCast, rw_land, sh_land, not_true_eq_false, e121, h9, bg_up_ne]; try conv => whnf)
                                refine ⟨by first | omega | (simp (disch := omega) only [bg_w_id, Int.toNat_natCast, rw_land, sh_land, not_true_eq_false, e121, h9, bg_up_ne]; omega), ?_⟩
                                refine hX _ ?_; conv => whnf
                                refine ⟨fun q233 => ?_, fun q233 => ?_⟩
                                · try simp (disch := omega) only [bg_w_id, Int.toNat_natCast, rw_land, sh_land, not_true_eq_false, e121, h9, bg_up_ne, kc0, kc1, kc2, kc3, kc4, kc5, kc6, kc7, kc8, kc9, kc10, kc11, kc12, kc13, kc14, kc15, kc16, kc17, kc18, kc19, kc20, kc21, kc22, kc23, kc24, kc25, kc26, kc27, kc28, kc29, kc30, kc31, kc32, kc33] at q233
                                  iterate 3 (refine hX _ ?_; conv => whnf)
                                  refine hX _ ?_; conv => whnf
                                  try (simp (disch := omega) only [bg_w_id, Int.toNat_natCast, rw_land, sh_land, not_true_eq_false, e121, h9, bg_up_ne]; try conv => whnf)
                                  refine ⟨by first | omega | (simp (disch := omega) only [bg_w_id, Int.toNat_natCast, rw_land, sh_land, not_true_eq_false, e121, h9, bg_up_ne]; omega), ?_⟩
                                  refine hX _ ?_; conv => whnf
                                  try (simp (disch := omega) only [bg_w_id, Int.toNat_natCast, rw_land, sh_land, not_true_eq_false, e121, h9, bg_up_ne]; try conv => whnf)
                                  refine ⟨by first | omega | (simp (disch := omega) only [bg_w_id, Int.toNat_natCast, rw_land, sh_land, not_true_eq_false, e121, h9, bg_up_ne]; omega), ?_⟩
                                  iterate 2 (refine hX _ ?_; conv => whnf)
                                  exact fin h' _ _ _ 1000000 hf rfl rfl (by unfold ntV; rw [em, if_neg (by simp)]) (by rw [if_neg (by omega)])
                                · exfalso
                                  (try simp (disch := omega) only [bg_w_id, Int.toNat_natCast, rw_land, sh_land, not_true_eq_false, e121, h9, bg_up_ne, kc0, kc1, kc2, kc3, kc4, kc5, kc6, kc7, kc8, kc9, kc10, kc11, kc12, kc13, kc14, kc15, kc16, kc17, kc18, kc19, kc20, kc21, kc22, kc23, kc24, kc25, kc26, kc27, kc28, kc29, kc30, kc31, kc32, kc33] at q233) <;> (omega)
                              · exfalso
                                (try simp (disch := omega) only [bg_w_id, Int.toNat_natCast, rw_land, sh_land, not_true_eq_false, e121, h9, bg_up_ne, kc0, kc1, kc2, kc3, kc4, kc5, kc6, kc7, kc8, kc9, kc10, kc11, kc12, kc13, kc14, kc15, kc16, kc17, kc18, kc19, kc20, kc21, kc22, kc23, kc24, kc25, kc26, kc27, kc28, kc29, kc30, kc31, kc32, kc33] at q188) <;> (omega)
                            · exfalso
                              (try simp (disch := omega) only [bg_w_id, Int.toNat_natCast, rw_land, sh_land, not_true_eq_false, e121, h9, bg_up_ne, kc0, kc1, kc2, kc3, kc4, kc5, kc6, kc7, kc8, kc9, kc10, kc11, kc12, kc13, kc14, kc15, kc16, kc17, kc18, kc19, kc20, kc21, kc22, kc23, kc24, kc25, kc26, kc27, kc28, kc29, kc30, kc31, kc32, kc33] at q139) <;> (omega)
                  iterate 2 (refine hX _ ?_; conv => whnf)
                  refine hX _ ?_; conv => whnf
                  refine ⟨fun q102 => ?_, fun q102 => ?_⟩
                  · exfalso
                    (try simp (disch := omega) only [bg_w_id, Int.toNat_natCast, rw_land, sh_land, not_true_eq_false, kc0, kc1, kc2, kc3, kc4, kc5, kc6, kc7, kc8, kc9, kc10, kc11, kc12, kc13, kc14, kc15, kc16, kc17, kc18, kc19, kc20, kc21, kc22, kc23, kc24, kc25, kc26, kc27, kc28, kc29, kc30, kc31, kc32, kc33] at q102) <;> (omega)
                  · try simp (disch := omega) only [bg_w_id, Int.toNat_natCast, rw_land, sh_land, not_true_eq_false, kc0, kc1, kc2, kc3, kc4, kc5, kc6, kc7, kc8, kc9, kc10, kc11, kc12, kc13, kc14, kc15, kc16, kc17, kc18, kc19, kc20, kc21, kc22, kc23, kc24, kc25, kc26, kc27, kc28, kc29, kc30, kc31, kc32, kc33] at q102
                    iterate 4 (refine hX _ ?_; conv => whnf)
                    refine hX _ ?_; conv => whnf
                    try (simp (disch := omega) only [bg_w_id, Int.toNat_natCast, rw_land, sh_land, not_true_eq_false]; try conv => whnf)
                    refine ⟨by first | omega | (simp (disch := omega) only [bg_w_id, Int.toNat_natCast, rw_land, sh_land, not_true_eq_false]; omega), ?_⟩
                    iterate 2 (refine hX _ ?_; conv => whnf)
                    exact l3 0 (by omega) _ _ _ (frN_up hf (Or.inr rfl) _ _) (fun g' hg' => by rw [bg_up_ne (by omega)]; exact h7 g' hg') (fun g' hg' => by rw [bg_up_nj (by omega)]; exact h8 g' hg') (bg_up_self _ _ _ _)
                · rw [if_neg c4] at eb
                  have es : S (q + 1) g = 1000000 := by
                    rw [eS]
                    show (if tldM h g then ntF (mayM h dd) M (ntS (tldM h) (mayM h dd) M q) g 4 else 1000000) = _
                    unfold tldM
                    rw [if_neg (by simp [c4])]
                  iterate 2 (refine hX _ ?_; conv => whnf)
                  refine hX _ ?_; conv => whnf
                  refine ⟨fun q102 => ?_, fun q102 => ?_⟩
                  · exfalso
                    (try simp (disch := omega) only [bg_w_id, Int.toNat_natCast, rw_land, sh_land, not_true_eq_false, kc0, kc1, kc2, kc3, kc4, kc5, kc6, kc7, kc8, kc9, kc10, kc11, kc12, kc13, kc14, kc15, kc16, kc17, kc18, kc19, kc20, kc21, kc22, kc23, kc24, kc25, kc26, kc27, kc28, kc29, kc30, kc31, kc32, kc33] at q102) <;> (omega)
                  · try simp (disch := omega) only [bg_w_id, Int.toNat_natCast, rw_land, sh_land, not_true_eq_false, kc0, kc1, kc2, kc3, kc4, kc5, kc6, kc7, kc8, kc9, kc10, kc11, kc12, kc13, kc14, kc15, kc16, kc17, kc18, kc19, kc20, kc21, kc22, kc23, kc24, kc25, kc26, kc27, kc28, kc29, kc30, kc31, kc32, kc33] at q102
                    iterate 4 (refine hX _ ?_; conv => whnf)
                    refine hX _ ?_; conv => whnf
                    try (simp (disch := omega) only [bg_w_id, Int.toNat_natCast, rw_land, sh_land, not_true_eq_false]; try conv => whnf)
                    refine ⟨by first | omega | (simp (disch := omega) only [bg_w_id, Int.toNat_natCast, rw_land, sh_land, not_true_eq_false]; omega), ?_⟩
                    iterate 4 (refine hX _ ?_; conv => whnf)
                    refine hX _ ?_; conv => whnf
                    refine ⟨fun q121 => ?_, fun q121 => ?_⟩
                    · exfalso
                      (try simp (disch := omega) only [bg_w_id, Int.toNat_natCast, rw_land, sh_land, not_true_eq_false, kc0, kc1, kc2, kc3, kc4, kc5, kc6, kc7, kc8, kc9, kc10, kc11, kc12, kc13, kc14, kc15, kc16, kc17, kc18, kc19, kc20, kc21, kc22, kc23, kc24, kc25, kc26, kc27, kc28, kc29, kc30, kc31, kc32, kc33] at q121) <;> (omega)
                    · try simp (disch := omega) only [bg_w_id, Int.toNat_natCast, rw_land, sh_land, not_true_eq_false, kc0, kc1, kc2, kc3, kc4, kc5, kc6, kc7, kc8, kc9, kc10, kc11, kc12, kc13, kc14, kc15, kc16, kc17, kc18, kc19, kc20, kc21, kc22, kc23, kc24, kc25, kc26, kc27, kc28, kc29, kc30, kc31, kc32, kc33] at q121
                      iterate 2 (refine hX _ ?_; conv => whnf)
                      refine hX _ ?_; conv => whnf
                      try simp (disch := omega) only [bg_w_id, Int.toNat_natCast, rw_land, sh_land, not_true_eq_false]
                      refine s_has (d + 3) _ _ _ _ ?_
                      rw [eb]
                      conv => whnf
                      refine hX _ ?_; conv => whnf
                      refine ⟨fun q130 => ?_, fun q130 => ?_⟩
                      · try simp (disch := omega) only [bg_w_id, Int.toNat_natCast, rw_land, sh_land, not_true_eq_false, kc0, kc1, kc2, kc3, kc4, kc5, kc6, kc7, kc8, kc9, kc10, kc11, kc12, kc13, kc14, kc15, kc16, kc17, kc18, kc19, kc20, kc21, kc22, kc23, kc24, kc25, kc26, kc27, kc28, kc29, kc30, kc31, kc32, kc33] at q130
                        iterate 2 (refine hX _ ?_; conv => whnf)
                        refine ih2 _ _ _ _ (frN_up hf (Or.inr rfl) _ _) (fun g' hg' => by rw [bg_up_ne (by omega)]; exact h7 g' hg') (fun g' hg' => ?_)
                        by_cases e : g' = g
                        · subst e; rw [bg_up_self, es]
                        · rw [bg_up_nj (by omega)]; exact h8 g' (by omega)
                      · exfalso
                        (try simp (disch := omega) only [bg_w_id, Int.toNat_natCast, rw_land, sh_land, not_true_eq_false, kc0, kc1, kc2, kc3, kc4, kc5, kc6, kc7, kc8, kc9, kc10, kc11, kc12, kc13, kc14, kc15, kc16, kc17, kc18, kc19, kc20, kc21, kc22, kc23, kc24, kc25, kc26, kc27, kc28, kc29, kc30, kc31, kc32, kc33] at q130) <;> (omega)
            iterate 2 (refine hX _ ?_; conv => whnf)
            refine hX _ ?_; conv => whnf
            refine ⟨fun q93 => ?_, fun q93 => ?_⟩
            · exfalso
              (try simp (disch := omega) only [bg_w_id, Int.toNat_natCast, rw_land, sh_land, not_true_eq_false, kc0, kc1, kc2, kc3, kc4, kc5, kc6, kc7, kc8, kc9, kc10, kc11, kc12, kc13, kc14, kc15, kc16, kc17, kc18, kc19, kc20, kc21, kc22, kc23, kc24, kc25, kc26, kc27, kc28, kc29, kc30, kc31, kc32, kc33] at q93) <;> (omega)
            · try simp (disch := omega) only [bg_w_id, Int.toNat_natCast, rw_land, sh_land, not_true_eq_false, kc0, kc1, kc2, kc3, kc4, kc5, kc6, kc7, kc8, kc9, kc10, kc11, kc12, kc13, kc14, kc15, kc16, kc17, kc18, kc19, kc20, kc21, kc22, kc23, kc24, kc25, kc26, kc27, kc28, kc29, kc30, kc31, kc32, kc33] at q93
              iterate 2 (refine hX _ ?_; conv => whnf)
              exact l2 0 (by omega) h' _ _ _ hf hs (fun g' hg' => absurd hg' (by omega))
        have l0 : ∀ g, g ≤ 4 → ∀ (h' : bg_G) (j5 j6 j7 j8 : Option bg_V), frN h h' → (∀ g' : Nat, g' < g → h' 138 g' = S 0 g') → X (42, [oR 115, oI m, oI dd, oI (t : Int), oI (g : Int), j5, j6, j7, j8], [], (bg_SH n, h'), (0, 0)) := by
          refine lp_up 4 _ ?_ (fun g hg4 ih => ?_)
          · intro h' j5 j6 j7 j8 hf hs
            iterate 2 (refine hX _ ?_; conv => whnf)
            refine hX _ ?_; conv => whnf
            refine ⟨fun q45 => ?_, fun q45 => ?_⟩
            · try simp (disch := omega) only [bg_w_id, Int.toNat_natCast, rw_land, sh_land, not_true_eq_false, kc0, kc1, kc2, kc3, kc4, kc5, kc6, kc7, kc8, kc9, kc10, kc11, kc12, kc13, kc14, kc15, kc16, kc17, kc18, kc19, kc20, kc21, kc22, kc23, kc24, kc25, kc26, kc27, kc28, kc29, kc30, kc31, kc32, kc33] at q45
              iterate 2 (refine hX _ ?_; conv => whnf)
              exact l1 0 (by omega) h' _ _ _ _ hf hs
            · exfalso
              (try simp (disch := omega) only [bg_w_id, Int.toNat_natCast, rw_land, sh_land, not_true_eq_false, kc0, kc1, kc2, kc3, kc4, kc5, kc6, kc7, kc8, kc9, kc10, kc11, kc12, kc13, kc14, kc15, kc16, kc17, kc18, kc19, kc20, kc21, kc22, kc23, kc24, kc25, kc26, kc27, kc28, kc29, kc30, kc31, kc32, kc33] at q45) <;> (omega)
          · intro h' j5 j6 j7 j8 hf hs
            have e121 := hf.1 122 (by omega) (by omega) (by omega) (by omega) (by omega) (by omega) (by omega)
            have eb := bt_t g hg4
            by_cases c4 : 0 ≤ h 122 g
            · rw [if_pos c4] at eb
              have sg := hS g hg4 c4
              have es : S 0 g = M g := by
                rw [eS]
                show (if tldM h g then M g else 1000000) = _
                unfold tldM
                rw [if_pos (by simp [c4])]
              iterate 2 (refine hX _ ?_; conv => whnf)
              refine hX _ ?_; conv => whnf
              refine ⟨fun q45 => ?_, fun q45 => ?_⟩
              · exfalso
                (try simp (disch := omega) only [bg_w_id, Int.toNat_natCast, rw_land, sh_land, not_true_eq_false, e121, kc0, kc1, kc2, kc3, kc4, kc5, kc6, kc7, kc8, kc9, kc10, kc11, kc12, kc13, kc14, kc15, kc16, kc17, kc18, kc19, kc20, kc21, kc22, kc23, kc24, kc25, kc26, kc27, kc28, kc29, kc30, kc31, kc32, kc33] at q45) <;> (omega)
              · try simp (disch := omega) only [bg_w_id, Int.toNat_natCast, rw_land, sh_land, not_true_eq_false, e121, kc0, kc1, kc2, kc3, kc4, kc5, kc6, kc7, kc8, kc9, kc10, kc11, kc12, kc13, kc14, kc15, kc16, kc17, kc18, kc19, kc20, kc21, kc22, kc23, kc24, kc25, kc26, kc27, kc28, kc29, kc30, kc31, kc32, kc33] at q45
                iterate 5 (refine hX _ ?_; conv => whnf)
                refine hX _ ?_; conv => whnf
                try simp (disch := omega) only [bg_w_id, Int.toNat_natCast, rw_land, sh_land, not_true_eq_false, e121]
                refine s_has (d + 3) _ _ _ _ ?_
                rw [eb]
                conv => whnf
                refine hX _ ?_; conv => whnf
                refine ⟨fun q60 => ?_, fun q60 => ?_⟩
                · exfalso
                  (try simp (disch := omega) only [bg_w_id, Int.toNat_natCast, rw_land, sh_land, not_true_eq_false, e121, kc0, kc1, kc2, kc3, kc4, kc5, kc6, kc7, kc8, kc9, kc10, kc11, kc12, kc13, kc14, kc15, kc16, kc17, kc18, kc19, kc20, kc21, kc22, kc23, kc24, kc25, kc26, kc27, kc28, kc29, kc30, kc31, kc32, kc33] at q60) <;> (omega)
                · try simp (disch := omega) only [bg_w_id, Int.toNat_natCast, rw_land, sh_land, not_true_eq_false, e121, kc0, kc1, kc2, kc3, kc4, kc5, kc6, kc7, kc8, kc9, kc10, kc11, kc12, kc13, kc14, kc15, kc16, kc17, kc18, kc19, kc20, kc21, kc22, kc23, kc24, kc25, kc26, kc27, kc28, kc29, kc30, kc31, kc32, kc33] at q60
                  iterate 4 (refine hX _ ?_; conv => whnf)
                  refine hX _ ?_; conv => whnf
                  try (simp (disch := omega) only [bg_w_id, Int.toNat_natCast, rw_land, sh_land, not_true_eq_false, e121]; try conv => whnf)
                  refine ⟨by first | omega | (simp (disch := omega) only [bg_w_id, Int.toNat_natCast, rw_land, sh_land, not_true_eq_false, e121]; omega), ?_⟩
                  refine hX _ ?_; conv => whnf
                  try simp (disch := omega) only [bg_w_id, Int.toNat_natCast, rw_land, sh_land, not_true_eq_false, e121]
                  refine s_mB d n _ (by omega) h' (frN_wf hf hg) (frN_S hf sg.1) _ (fun h2 hf2 _ => ?_)
                  rw [frN_most hf, eM']
                  have x7 := hf2.1 138 (by omega) (by omega) (by omega) (by omega) (by omega)
                  conv => whnf
                  refine hX _ ?_; conv => whnf
                  refine hX _ ?_; conv => whnf
                  try (simp (disch := omega) only [bg_w_id, Int.toNat_natCast, rw_land, sh_land, not_true_eq_false, e121]; try conv => whnf)
                  refine ⟨by first | omega | (simp (disch := omega) only [bg_w_id, Int.toNat_natCast, rw_land, sh_land, not_true_eq_false, e121]; omega), ?_⟩
                  iterate 2 (refine hX _ ?_; conv => whnf)
                  refine ih _ _ _ _ _ (frN_up (frN_M hf hf2) (Or.inl rfl) _ _) (fun g' hg' => ?_)
                  by_cases e : g' = g
                  · subst e; rw [bg_up_self, es]
                  · rw [bg_up_nj (by omega), x7]; exact hs g' (by omega)
            · rw [if_neg c4] at eb
              have es : S 0 g = 1000000 := by
                rw [eS]
                show (if tldM h g then M g else 1000000) = _
                unfold tldM
                rw [if_neg (by simp [c4])]
              iterate 2 (refine hX _ ?_; conv => whnf)
              refine hX _ ?_; conv => whnf
              refine ⟨fun q45 => ?_, fun q45 => ?_⟩
              · exfalso
                (try simp (disch := omega) only [bg_w_id, Int.toNat_natCast, rw_land, sh_land, not_true_eq_false, e121, kc0, kc1, kc2, kc3, kc4, kc5, kc6, kc7, kc8, kc9, kc10, kc11, kc12, kc13, kc14, kc15, kc16, kc17, kc18, kc19, kc20, kc21, kc22, kc23, kc24, kc25, kc26, kc27, kc28, kc29, kc30, kc31, kc32, kc33] at q45) <;> (omega)
              · try simp (disch := omega) only [bg_w_id, Int.toNat_natCast, rw_land, sh_land, not_true_eq_false, e121, kc0, kc1, kc2, kc3, kc4, kc5, kc6, kc7, kc8, kc9, kc10, kc11, kc12, kc13, kc14, kc15, kc16, kc17, kc18, kc19, kc20, kc21, kc22, kc23, kc24, kc25, kc26, kc27, kc28, kc29, kc30, kc31, kc32, kc33] at q45
                iterate 5 (refine hX _ ?_; conv => whnf)
                refine hX _ ?_; conv => whnf
                try simp (disch := omega) only [bg_w_id, Int.toNat_natCast, rw_land, sh_land, not_true_eq_false, e121]
                refine s_has (d + 3) _ _ _ _ ?_
                rw [eb]
                conv => whnf
                refine hX _ ?_; conv => whnf
                refine ⟨fun q60 => ?_, fun q60 => ?_⟩
                · try simp (disch := omega) only [bg_w_id, Int.toNat_natCast, rw_land, sh_land, not_true_eq_false, e121, kc0, kc1, kc2, kc3, kc4, kc5, kc6, kc7, kc8, kc9, kc10, kc11, kc12, kc13, kc14, kc15, kc16, kc17, kc18, kc19, kc20, kc21, kc22, kc23, kc24, kc25, kc26, kc27, kc28, kc29, kc30, kc31, kc32, kc33] at q60
                  refine hX _ ?_; conv => whnf
                  refine hX _ ?_; conv => whnf
                  try (simp (disch := omega) only [bg_w_id, Int.toNat_natCast, rw_land, sh_land, not_true_eq_false, e121]; try conv => whnf)
                  refine ⟨by first | omega | (simp (disch := omega) only [bg_w_id, Int.toNat_natCast, rw_land, sh_land, not_true_eq_false, e121]; omega), ?_⟩
                  iterate 2 (refine hX _ ?_; conv => whnf)
                  refine ih _ _ _ _ _ (frN_up hf (Or.inl rfl) _ _) (fun g' hg' => ?_)
                  by_cases e : g' = g
                  · subst e; rw [bg_up_self, es]
                  · rw [bg_up_nj (by omega)]; exact hs g' (by omega)
                · exfalso
                  (try simp (disch := omega) only [bg_w_id, Int.toNat_natCast, rw_land, sh_land, not_true_eq_false, e121, kc0, kc1, kc2, kc3, kc4, kc5, kc6, kc7, kc8, kc9, kc10, kc11, kc12, kc13, kc14, kc15, kc16, kc17, kc18, kc19, kc20, kc21, kc22, kc23, kc24, kc25, kc26, kc27, kc28, kc29, kc30, kc31, kc32, kc33] at q60) <;> (omega)
        iterate 4 (refine hX _ ?_; conv => whnf)
        try simp (disch := omega) only [bg_w_id, Int.toNat_natCast, rw_land, sh_land, not_true_eq_false]
        refine hX _ ?_; conv => whnf
        try simp (disch := omega) only [bg_w_id, Int.toNat_natCast, rw_land, sh_land, not_true_eq_false]
        refine s_in_t (d + 3) _ _ _ _ _ (by omega) (by omega) (by omega) c1 ?_
        conv => whnf
        refine hX _ ?_; conv => whnf
        refine ⟨fun q9 => ?_, fun q9 => ?_⟩
        · exfalso
          (try simp (disch := omega) only [bg_w_id, Int.toNat_natCast, rw_land, sh_land, not_true_eq_false, kc0, kc1, kc2, kc3, kc4, kc5, kc6, kc7, kc8, kc9, kc10, kc11, kc12, kc13, kc14, kc15, kc16, kc17, kc18, kc19, kc20, kc21, kc22, kc23, kc24, kc25, kc26, kc27, kc28, kc29, kc30, kc31, kc32, kc33] at q9) <;> (omega)
        · try simp (disch := omega) only [bg_w_id, Int.toNat_natCast, rw_land, sh_land, not_true_eq_false, kc0, kc1, kc2, kc3, kc4, kc5, kc6, kc7, kc8, kc9, kc10, kc11, kc12, kc13, kc14, kc15, kc16, kc17, kc18, kc19, kc20, kc21, kc22, kc23, kc24, kc25, kc26, kc27, kc28, kc29, kc30, kc31, kc32, kc33] at q9
          iterate 4 (refine hX _ ?_; conv => whnf)
          try simp (disch := omega) only [bg_w_id, Int.toNat_natCast, rw_land, sh_land, not_true_eq_false]
          refine hX _ ?_; conv => whnf
          try simp (disch := omega) only [bg_w_id, Int.toNat_natCast, rw_land, sh_land, not_true_eq_false]
          refine s_in_t (d + 3) _ _ _ _ _ (by omega) (by omega) (by omega) c2 ?_
          conv => whnf
          refine hX _ ?_; conv => whnf
          refine ⟨fun q21 => ?_, fun q21 => ?_⟩
          · try simp (disch := omega) only [bg_w_id, Int.toNat_natCast, rw_land, sh_land, not_true_eq_false, kc0, kc1, kc2, kc3, kc4, kc5, kc6, kc7, kc8, kc9, kc10, kc11, kc12, kc13, kc14, kc15, kc16, kc17, kc18, kc19, kc20, kc21, kc22, kc23, kc24, kc25, kc26, kc27, kc28, kc29, kc30, kc31, kc32, kc33] at q21
            iterate 2 (refine hX _ ?_; conv => whnf)
            refine hX _ ?_; conv => whnf
            try simp (disch := omega) only [bg_w_id, Int.toNat_natCast, rw_land, sh_land, not_true_eq_false]
            refine s_mtoldOnes (d + 3) n 0 (by omega) h hr _ ?_
            rw [toldM_0, ← et]
            conv => whnf
            iterate 2 (refine hX _ ?_; conv => whnf)
            refine hX _ ?_; conv => whnf
            refine ⟨fun q33 => ?_, fun q33 => ?_⟩
            · try simp (disch := omega) only [bg_w_id, Int.toNat_natCast, rw_land, sh_land, not_true_eq_false, kc0, kc1, kc2, kc3, kc4, kc5, kc6, kc7, kc8, kc9, kc10, kc11, kc12, kc13, kc14, kc15, kc16, kc17, kc18, kc19, kc20, kc21, kc22, kc23, kc24, kc25, kc26, kc27, kc28, kc29, kc30, kc31, kc32, kc33] at q33
              iterate 2 (refine hX _ ?_; conv => whnf)
              exact l0 0 (by omega) h _ _ _ _ ⟨fun _ _ _ _ _ _ _ _ => rfl, fun _ _ _ => rfl, hg.2.2⟩ (fun g' hg' => absurd hg' (by omega))
            · exfalso
              (try simp (disch := omega) only [bg_w_id, Int.toNat_natCast, rw_land, sh_land, not_true_eq_false, kc0, kc1, kc2, kc3, kc4, kc5, kc6, kc7, kc8, kc9, kc10, kc11, kc12, kc13, kc14, kc15, kc16, kc17, kc18, kc19, kc20, kc21, kc22, kc23, kc24, kc25, kc26, kc27, kc28, kc29, kc30, kc31, kc32, kc33] at q33) <;> (omega)
          · exfalso
            (try simp (disch := omega) only [bg_w_id, Int.toNat_natCast, rw_land, sh_land, not_true_eq_false, kc0, kc1, kc2, kc3, kc4, kc5, kc6, kc7, kc8, kc9, kc10, kc11, kc12, kc13, kc14, kc15, kc16, kc17, kc18, kc19, kc20, kc21, kc22, kc23, kc24, kc25, kc26, kc27, kc28, kc29, kc30, kc31, kc32, kc33] at q21) <;> (omega)
    · iterate 4 (refine hX _ ?_; conv => whnf)
      try simp (disch := omega) only [bg_w_id, Int.toNat_natCast, rw_land, sh_land, not_true_eq_false]
      refine hX _ ?_; conv => whnf
      try simp (disch := omega) only [bg_w_id, Int.toNat_natCast, rw_land, sh_land, not_true_eq_false]
      refine s_in_t (d + 3) _ _ _ _ _ (by omega) (by omega) (by omega) c1 ?_
      conv => whnf
      refine hX _ ?_; conv => whnf
      refine ⟨fun q9 => ?_, fun q9 => ?_⟩
      · exfalso
        (try simp (disch := omega) only [bg_w_id, Int.toNat_natCast, rw_land, sh_land, not_true_eq_false, kc0, kc1, kc2, kc3, kc4, kc5, kc6, kc7, kc8, kc9, kc10, kc11, kc12, kc13, kc14, kc15, kc16, kc17, kc18, kc19, kc20, kc21, kc22, kc23, kc24, kc25, kc26, kc27, kc28, kc29, kc30, kc31, kc32, kc33] at q9) <;> (omega)
      · try simp (disch := omega) only [bg_w_id, Int.toNat_natCast, rw_land, sh_land, not_true_eq_false, kc0, kc1, kc2, kc3, kc4, kc5, kc6, kc7, kc8, kc9, kc10, kc11, kc12, kc13, kc14, kc15, kc16, kc17, kc18, kc19, kc20, kc21, kc22, kc23, kc24, kc25, kc26, kc27, kc28, kc29, kc30, kc31, kc32, kc33] at q9
        iterate 4 (refine hX _ ?_; conv => whnf)
        try simp (disch := omega) only [bg_w_id, Int.toNat_natCast, rw_land, sh_land, not_true_eq_false]
        refine hX _ ?_; conv => whnf
        try simp (disch := omega) only [bg_w_id, Int.toNat_natCast, rw_land, sh_land, not_true_eq_false]
        refine s_in_f (d + 3) _ _ _ _ _ (by omega) (by omega) (by omega) c2 ?_
        conv => whnf
        refine hX _ ?_; conv => whnf
        refine ⟨fun q21 => ?_, fun q21 => ?_⟩
        · exfalso
          (try simp (disch := omega) only [bg_w_id, Int.toNat_natCast, rw_land, sh_land, not_true_eq_false, kc0, kc1, kc2, kc3, kc4, kc5, kc6, kc7, kc8, kc9, kc10, kc11, kc12, kc13, kc14, kc15, kc16, kc17, kc18, kc19, kc20, kc21, kc22, kc23, kc24, kc25, kc26, kc27, kc28, kc29, kc30, kc31, kc32, kc33] at q21) <;> (omega)
        · try simp (disch := omega) only [bg_w_id, Int.toNat_natCast, rw_land, sh_land, not_true_eq_false, kc0, kc1, kc2, kc3, kc4, kc5, kc6, kc7, kc8, kc9, kc10, kc11, kc12, kc13, kc14, kc15, kc16, kc17, kc18, kc19, kc20, kc21, kc22, kc23, kc24, kc25, kc26, kc27, kc28, kc29, kc30, kc31, kc32, kc33] at q21
          refine hX _ ?_; conv => whnf
          refine hX _ ?_; conv => whnf
          exact hR0 (fun e => c2 e.2)
  · iterate 4 (refine hX _ ?_; conv => whnf)
    try simp (disch := omega) only [bg_w_id, Int.toNat_natCast, rw_land, sh_land, not_true_eq_false]
    refine hX _ ?_; conv => whnf
    try simp (disch := omega) only [bg_w_id, Int.toNat_natCast, rw_land, sh_land, not_true_eq_false]
    refine s_in_f (d + 3) _ _ _ _ _ (by omega) (by omega) (by omega) c1 ?_
    conv => whnf
    refine hX _ ?_; conv => whnf
    refine ⟨fun q9 => ?_, fun q9 => ?_⟩
    · try simp (disch := omega) only [bg_w_id, Int.toNat_natCast, rw_land, sh_land, not_true_eq_false, kc0, kc1, kc2, kc3, kc4, kc5, kc6, kc7, kc8, kc9, kc10, kc11, kc12, kc13, kc14, kc15, kc16, kc17, kc18, kc19, kc20, kc21, kc22, kc23, kc24, kc25, kc26, kc27, kc28, kc29, kc30, kc31, kc32, kc33] at q9
      refine hX _ ?_; conv => whnf
      refine hX _ ?_; conv => whnf
      exact hR0 (fun e => c1 e.1)
    · exfalso
      (try simp (disch := omega) only [bg_w_id, Int.toNat_natCast, rw_land, sh_land, not_true_eq_false, kc0, kc1, kc2, kc3, kc4, kc5, kc6, kc7, kc8, kc9, kc10, kc11, kc12, kc13, kc14, kc15, kc16, kc17, kc18, kc19, kc20, kc21, kc22, kc23, kc24, kc25, kc26, kc27, kc28, kc29, kc30, kc31, kc32, kc33] at q9) <;> (omega)
