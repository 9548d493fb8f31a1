def mxF (n : Nat) (b : Nat → Int) : Int := fo n (fun c a => if a < b c then b c else a) 0
theorem mxF_rg {b : Nat → Int} {B : Int} (hB : 0 ≤ B) : ∀ n, (∀ c, c < n → b c ≤ B) → 0 ≤ mxF n b ∧ mxF n b ≤ B
  | 0, _ => ⟨Int.le_refl _, hB⟩
  | n + 1, h => by
    have ih := mxF_rg hB n (fun c hc => h c (by omega))
    have h1 := h n (by omega)
    show 0 ≤ (if mxF n b < b n then b n else mxF n b) ∧ (if mxF n b < b n then b n else mxF n b) ≤ B
    split <;> omega
def tdF (T : Nat → Int) (B : Nat → Nat → Int) : Int := sm 4 (fun g => T g * mxF 4 (B g)) - mxF 4 (fun c => sm 4 (fun g => T g * B g c))
/-- what carrier c brings by guard g if both take part: model -/
def bgM (h : bg_G) (g c : Nat) : Int := if 0 ≤ h 122 g ∧ 0 ≤ h 123 c then gmM h g c else 0
/-- the lots are as they may be: model -/
def lotM (h : bg_G) : Prop := ∀ k : Nat, k < 4 → (h 122 k = -1 ∨ (okS (h 117 0) (h 119 0) (h 122 k) ∧ h 122 k < 32768)) ∧ (-1 ≤ h 123 k ∧ h 123 k < (wsM h).length)
theorem thrM_rg {h : bg_G} (ho : okM h) (held : Int) {w : Nat} (hw : w < (wsM h).length) : 0 ≤ thrM h held w ∧ thrM h held w ≤ 1000 := by
  have hn := ho.1.1
  obtain ⟨l, e, m1, m2, m3⟩ := wsG_mem hw
  obtain ⟨p1, p2⟩ := ptW_some e
  refine thr_rg _ (fun i hi => ?_) (by omega)
  have p1 : lenW (wsM h) w = l.length := p1
  rw [p1] at hi
  have hm := m1 _ (p2 i hi).2
  have := bearM_rg ho (held := held) (b := 0) (p := ptW (wsM h) w i) (by have : ptW (wsM h) w i < (h 117 0).toNat := hm; omega) (by omega)
  show 0 ≤ bearM h held (ptW (wsM h) w i) 0 ∧ bearM h held (ptW (wsM h) w i) 0 ≤ 1000
  omega
theorem bgM_rg {h : bg_G} (ho : okM h) (hl : lotM h) {g c : Nat} (hc : c < 4) : 0 ≤ bgM h g c ∧ bgM h g c ≤ 1000 := by
  unfold bgM
  split
  · have := hl c hc
    exact thrM_rg ho _ (by omega)
  · omega
def alF (t0 : Int) (P : Nat → Prop) [DecidablePred P] : Nat → Int
  | 0 => if t0 = 0 then 0 else 1
  | n + 1 => if alF t0 P n = 0 then 0 else if P n then 1 else 0
theorem alF_1 {t0 : Int} {P : Nat → Prop} [DecidablePred P] : ∀ n, (alF t0 P n = 1 ∧ (t0 ≠ 0 ∧ ∀ g, g < n → P g)) ∨ (alF t0 P n = 0 ∧ ¬ (t0 ≠ 0 ∧ ∀ g, g < n → P g))
  | 0 => by
    unfold alF
    by_cases c : t0 = 0
    · rw [if_pos c]; exact Or.inr ⟨rfl, fun e => e.1 c⟩
    · rw [if_neg c]; exact Or.inl ⟨rfl, c, fun g hg => absurd hg (by omega)⟩
  | n + 1 => by
    unfold alF
    rcases alF_1 (t0 := t0) (P := P) n with ⟨e, h1, h2⟩ | ⟨e, h1⟩
    · rw [e, if_neg (by omega)]
      by_cases c : P n
      · rw [if_pos c]
        refine Or.inl ⟨rfl, h1, fun g hg => ?_⟩
        by_cases e2 : g = n
        · subst e2; exact c
        · exact h2 g (by omega)
      · rw [if_neg c]; exact Or.inr ⟨rfl, fun e => c (e.2 n (by omega))⟩
    · rw [e, if_pos rfl]; exact Or.inr ⟨rfl, fun e => h1 ⟨e.1, fun g hg => e.2 g (by omega)⟩⟩
theorem s_mtold (d n : Nat) (h : bg_G) (ho : okM h) (hw : wayL h) (hl : lotM h) (hT : ∀ g : Nat, g < 4 → 0 ≤ h 125 g ∧ h 125 g ≤ 10) (Rt : bg_R) (hR1 : tSet (fun k => h 123 k) ≠ 0 → (∀ g : Nat, g < 4 → h 125 g = 0 ∨ 0 ≤ h 122 g) → sm 4 (fun g => h 125 g) = 10 → ∀ h' : bg_G, frW h h' → Rt (some (.inl (tdF (fun g => h 125 g) (bgM h)))) (bg_SH n, h')) (hR0 : ¬ (tSet (fun k => h 123 k) ≠ 0 ∧ (∀ g : Nat, g < 4 → h 125 g = 0 ∨ 0 ≤ h 122 g) ∧ sm 4 (fun g => h 125 g) = 10) → Rt (some (.inl (-2))) (bg_SH n, h)) : bg_Ca bg_MS (d + 5) 181 [vR 115] (bg_SH n, h) Rt := by
  have hwl : (wsM h).length ≤ 400 := wsG_len _ _ _
  have hr : ∀ k : Nat, k < 4 → i32 (h 122 k) ∧ i32 (h 123 k) := fun k hk => by
    have := hl k hk
    refine ⟨?_, by omega⟩
    rcases this.1 with e | ⟨e, e2⟩
    · omega
    · have := e.1; omega
  obtain ⟨T, eT⟩ : ∃ T : Nat → Int, T = fun g : Nat => h 125 g := ⟨_, rfl⟩
  have eT' : ∀ g : Nat, h 125 g = T g := fun g => by rw [eT]
  rw [← eT] at hR1 hR0
  simp only [eT'] at hT hR1 hR0
  obtain ⟨B, eB⟩ : ∃ B : Nat → Nat → Int, B = bgM h := ⟨_, rfl⟩
  have rB : ∀ g c, c < 4 → 0 ≤ B g c ∧ B g c ≤ 1000 := fun g c hc => by rw [eB]; exact bgM_rg ho hl hc
  rw [← eB] at hR1
  obtain ⟨t0, et0⟩ : ∃ t0 : Int, t0 = (tSet (fun k => h 123 k) : Nat) := ⟨_, rfl⟩
  have rt0 : 0 ≤ t0 ∧ t0 < 16 := by have := tSet_lt (fun k => h 123 k); omega
  have smT : ∀ g, g ≤ 4 → 0 ≤ sm g T ∧ sm g T ≤ 40 := fun g hg => by
    have := sm_rg (n := g) (f := T) (B := 10) (fun i hi => hT i (by omega))
    omega
  have rTB : ∀ g, g < 4 → ∀ c, c < 4 → 0 ≤ T g * B g c ∧ T g * B g c ≤ 10000 := fun g hg c hc => mul_rg (hT g hg) (rB g c hc)
  have rmean : ∀ g, g ≤ 4 → ∀ c, c < 4 → 0 ≤ sm g (fun g => T g * B g c) ∧ sm g (fun g => T g * B g c) ≤ 40000 := fun g hg c hc => by
    have := sm_rg (n := g) (f := fun g => T g * B g c) (B := 10000) (fun i hi => rTB i (by omega) c hc)
    omega
  have rbest : ∀ g c, c ≤ 4 → 0 ≤ mxF c (B g) ∧ mxF c (B g) ≤ 1000 := fun g c hc => mxF_rg (by omega) c (fun c' hc' => (rB g c' (by omega)).2)
  have rblind : ∀ c, c ≤ 4 → 0 ≤ mxF c (fun c => sm 4 (fun g => T g * B g c)) ∧ mxF c (fun c => sm 4 (fun g => T g * B g c)) ≤ 40000 := fun c hc => mxF_rg (by omega) c (fun c' hc' => (rmean 4 (by omega) c' (by omega)).2)
  have rknown : ∀ g, g ≤ 4 → 0 ≤ sm g (fun g => T g * mxF 4 (B g)) ∧ sm g (fun g => T g * mxF 4 (B g)) ≤ 40000 := fun g hg => by
    have := sm_rg (n := g) (f := fun g => T g * mxF 4 (B g)) (B := 10000) (fun i hi => mul_rg (hT i (by omega)) (rbest i 4 (by omega)))
    omega
  refine bg_ca (cd := cd_X9_told) rfl rfl ?_
  intro X hX
  -- the last loop
  have lC : (∀ g : Nat, g < 4 → T g = 0 ∨ 0 ≤ h 122 g) → ∀ h' : bg_G, frW h h' → Rt (some (.inl (tdF T B))) (bg_SH n, h') → ∀ g, g ≤ 4 → ∀ (j1 j2 j6 j7 j8 : Option bg_V), X (185, [oR 115, j1, j2, oI (sm g (fun g => T g * mxF 4 (B g))), oI (mxF 4 (fun c => sm 4 (fun g => T g * B g c))), oI (g : Int), j6, j7, j8], [], (bg_SH n, h'), (0, 0)) := by
    intro hG h' hf hR
    have e124 := hf.1 125 (by omega) (by omega) (by omega) (by omega)
    have e122 := hf.1 123 (by omega) (by omega) (by omega) (by omega)
    refine lp_up 4 _ ?_ (fun g hg ih => ?_)
    · intro j1 j2 j6 j7 j8
      iterate 2 (refine hX _ ?_; conv => whnf)
      refine hX _ ?_; conv => whnf
      refine ⟨fun q188 => ?_, fun q188 => ?_⟩
      · try simp (disch := omega) only [bg_w_id, Int.toNat_natCast, rw_land, sh_land, not_true_eq_false, kc0, kc1, kc2, kc3, kc4, kc5, kc6, kc7, kc8, kc9, kc10, kc11, kc12, kc13, kc14, kc15, kc16, kc17, kc18, kc19, kc20, kc21, kc22, kc23, kc24, kc25, kc26, kc27, kc28, kc29, kc30, kc31, kc32, kc33] at q188
        iterate 3 (refine hX _ ?_; conv => whnf)
        refine hX _ ?_; conv => whnf
        exact hR
      · exfalso
        (try simp (disch := omega) only [bg_w_id, Int.toNat_natCast, rw_land, sh_land, not_true_eq_false, kc0, kc1, kc2, kc3, kc4, kc5, kc6, kc7, kc8, kc9, kc10, kc11, kc12, kc13, kc14, kc15, kc16, kc17, kc18, kc19, kc20, kc21, kc22, kc23, kc24, kc25, kc26, kc27, kc28, kc29, kc30, kc31, kc32, kc33] at q188) <;> (omega)
    · intro j1 j2 j6 j7 j8
      have rg := hT g hg
      have ih : ∀ (j1 j2 j6 j7 j8 : Option bg_V), X (185, [oR 115, j1, j2, oI (sm g (fun g => T g * mxF 4 (B g)) + T g * mxF 4 (B g)), oI (mxF 4 (fun c => sm 4 (fun g => T g * B g c))), oI ((g : Int) + 1), j6, j7, j8], [], (bg_SH n, h'), (0, 0)) := ih
      by_cases c0 : T g = 0
      · rw [c0, Int.zero_mul] at ih
        iterate 2 (refine hX _ ?_; conv => whnf)
        refine hX _ ?_; conv => whnf
        refine ⟨fun q188 => ?_, fun q188 => ?_⟩
        · exfalso
          (try simp (disch := omega) only [bg_w_id, Int.toNat_natCast, rw_land, sh_land, not_true_eq_false, e124, eT', c0, kc0, kc1, kc2, kc3, kc4, kc5, kc6, kc7, kc8, kc9, kc10, kc11, kc12, kc13, kc14, kc15, kc16, kc17, kc18, kc19, kc20, kc21, kc22, kc23, kc24, kc25, kc26, kc27, kc28, kc29, kc30, kc31, kc32, kc33] at q188) <;> (omega)
        · try simp (disch := omega) only [bg_w_id, Int.toNat_natCast, rw_land, sh_land, not_true_eq_false, e124, eT', c0, kc0, kc1, kc2, kc3, kc4, kc5, kc6, kc7, kc8, kc9, kc10, kc11, kc12, kc13, kc14, kc15, kc16, kc17, kc18, kc19, kc20, kc21, kc22, kc23, kc24, kc25, kc26, kc27, kc28, kc29, kc30, kc31, kc32, kc33] at q188
          iterate 6 (refine hX _ ?_; conv => whnf)
          refine hX _ ?_; conv => whnf
          refine ⟨fun q200 => ?_, fun q200 => ?_⟩
          · exfalso
            (try simp (disch := omega) only [bg_w_id, Int.toNat_natCast, rw_land, sh_land, not_true_eq_false, e124, eT', c0, kc0, kc1, kc2, kc3, kc4, kc5, kc6, kc7, kc8, kc9, kc10, kc11, kc12, kc13, kc14, kc15, kc16, kc17, kc18, kc19, kc20, kc21, kc22, kc23, kc24, kc25, kc26, kc27, kc28, kc29, kc30, kc31, kc32, kc33] at q200) <;> (omega)
          · try simp (disch := omega) only [bg_w_id, Int.toNat_natCast, rw_land, sh_land, not_true_eq_false, e124, eT', c0, kc0, kc1, kc2, kc3, kc4, kc5, kc6, kc7, kc8, kc9, kc10, kc11, kc12, kc13, kc14, kc15, kc16, kc17, kc18, kc19, kc20, kc21, kc22, kc23, kc24, kc25, kc26, kc27, kc28, kc29, kc30, kc31, kc32, kc33] at q200
            iterate 3 (refine hX _ ?_; conv => whnf)
            refine hX _ ?_; conv => whnf
            try (simp (disch := omega) only [bg_w_id, Int.toNat_natCast, rw_land, sh_land, not_true_eq_false, e124, eT', c0]; try conv => whnf)
            refine ⟨by first | omega | (simp (disch := omega) only [bg_w_id, Int.toNat_natCast, rw_land, sh_land, not_true_eq_false, e124, eT', c0]; omega), ?_⟩
            refine hX _ ?_; conv => whnf
            refine ⟨fun q210 => ?_, fun q210 => ?_⟩
            · try simp (disch := omega) only [bg_w_id, Int.toNat_natCast, rw_land, sh_land, not_true_eq_false, e124, eT', c0, kc0, kc1, kc2, kc3, kc4, kc5, kc6, kc7, kc8, kc9, kc10, kc11, kc12, kc13, kc14, kc15, kc16, kc17, kc18, kc19, kc20, kc21, kc22, kc23, kc24, kc25, kc26, kc27, kc28, kc29, kc30, kc31, kc32, kc33] at q210
              iterate 4 (refine hX _ ?_; conv => whnf)
              refine hX _ ?_; conv => whnf
              try (simp (disch := omega) only [bg_w_id, Int.toNat_natCast, rw_land, sh_land, not_true_eq_false, e124, eT', c0]; try conv => whnf)
              refine ⟨by first | omega | (simp (disch := omega) only [bg_w_id, Int.toNat_natCast, rw_land, sh_land, not_true_eq_false, e124, eT', c0]; omega), ?_⟩
              iterate 6 (refine hX _ ?_; conv => whnf)
              rw [show (0 : Int) * 0 = 0 from rfl]
              exact ih _ _ _ _ _
            · exfalso
              (try simp (disch := omega) only [bg_w_id, Int.toNat_natCast, rw_land, sh_land, not_true_eq_false, e124, eT', c0, kc0, kc1, kc2, kc3, kc4, kc5, kc6, kc7, kc8, kc9, kc10, kc11, kc12, kc13, kc14, kc15, kc16, kc17, kc18, kc19, kc20, kc21, kc22, kc23, kc24, kc25, kc26, kc27, kc28, kc29, kc30, kc31, kc32, kc33] at q210) <;> (omega)
      · have hG1 := (hG g hg).resolve_left c0
        have l2 : ∀ c, c ≤ 4 → ∀ (j1 j2 j8 : Option bg_V), X (197, [oR 115, j1, j2, oI (sm g (fun g => T g * mxF 4 (B g))), oI (mxF 4 (fun c => sm 4 (fun g => T g * B g c))), oI (g : Int), oI (mxF c (B g)), oI (c : Int), j8], [], (bg_SH n, h'), (0, 0)) := by
          refine lp_up 4 _ ?_ (fun c hc ih2 => ?_)
          · intro j1 j2 j8
            iterate 2 (refine hX _ ?_; conv => whnf)
            refine hX _ ?_; conv => whnf
            refine ⟨fun q200 => ?_, fun q200 => ?_⟩
            · try simp (disch := omega) only [bg_w_id, Int.toNat_natCast, rw_land, sh_land, not_true_eq_false, e124, eT', kc0, kc1, kc2, kc3, kc4, kc5, kc6, kc7, kc8, kc9, kc10, kc11, kc12, kc13, kc14, kc15, kc16, kc17, kc18, kc19, kc20, kc21, kc22, kc23, kc24, kc25, kc26, kc27, kc28, kc29, kc30, kc31, kc32, kc33] at q200
              iterate 4 (refine hX _ ?_; conv => whnf)
              refine hX _ ?_; conv => whnf
              try (simp (disch := omega) only [bg_w_id, Int.toNat_natCast, rw_land, sh_land, not_true_eq_false, e124, eT']; try conv => whnf)
              refine ⟨by first | omega | (simp (disch := omega) only [bg_w_id, Int.toNat_natCast, rw_land, sh_land, not_true_eq_false, e124, eT']; omega), ?_⟩
              iterate 6 (refine hX _ ?_; conv => whnf)
              exact ih _ _ _ _ _
            · exfalso
              (try simp (disch := omega) only [bg_w_id, Int.toNat_natCast, rw_land, sh_land, not_true_eq_false, e124, eT', kc0, kc1, kc2, kc3, kc4, kc5, kc6, kc7, kc8, kc9, kc10, kc11, kc12, kc13, kc14, kc15, kc16, kc17, kc18, kc19, kc20, kc21, kc22, kc23, kc24, kc25, kc26, kc27, kc28, kc29, kc30, kc31, kc32, kc33] at q200) <;> (omega)
          · intro j1 j2 j8
            have rb := rB g c hc
            have rx := rbest g c (by omega)
            have rl := hl c hc
            have ih2 : ∀ (j1 j2 j8 : Option bg_V), X (197, [oR 115, j1, j2, oI (sm g (fun g => T g * mxF 4 (B g))), oI (mxF 4 (fun c => sm 4 (fun g => T g * B g c))), oI (g : Int), oI (if mxF c (B g) < B g c then B g c else mxF c (B g)), oI ((c : Int) + 1), j8], [], (bg_SH n, h'), (0, 0)) := ih2
            by_cases c3 : 0 ≤ h 123 c
            · have e3 : gmM h g c = B g c := by rw [eB]; unfold bgM; rw [if_pos ⟨hG1, c3⟩]
              iterate 2 (refine hX _ ?_; conv => whnf)
              refine hX _ ?_; conv => whnf
              refine ⟨fun q200 => ?_, fun q200 => ?_⟩
              · exfalso
                (try simp (disch := omega) only [bg_w_id, Int.toNat_natCast, rw_land, sh_land, not_true_eq_false, e124, e122, eT', kc0, kc1, kc2, kc3, kc4, kc5, kc6, kc7, kc8, kc9, kc10, kc11, kc12, kc13, kc14, kc15, kc16, kc17, kc18, kc19, kc20, kc21, kc22, kc23, kc24, kc25, kc26, kc27, kc28, kc29, kc30, kc31, kc32, kc33] at q200) <;> (omega)
              · try simp (disch := omega) only [bg_w_id, Int.toNat_natCast, rw_land, sh_land, not_true_eq_false, e124, e122, eT', kc0, kc1, kc2, kc3, kc4, kc5, kc6, kc7, kc8, kc9, kc10, kc11, kc12, kc13, kc14, kc15, kc16, kc17, kc18, kc19, kc20, kc21, kc22, kc23, kc24, kc25, kc26, kc27, kc28, kc29, kc30, kc31, kc32, kc33] at q200
                iterate 3 (refine hX _ ?_; conv => whnf)
                refine hX _ ?_; conv => whnf
                try (simp (disch := omega) only [bg_w_id, Int.toNat_natCast, rw_land, sh_land, not_true_eq_false, e124, e122, eT']; try conv => whnf)
                refine ⟨by first | omega | (simp (disch := omega) only [bg_w_id, Int.toNat_natCast, rw_land, sh_land, not_true_eq_false, e124, e122, eT']; omega), ?_⟩
                refine hX _ ?_; conv => whnf
                refine ⟨fun q210 => ?_, fun q210 => ?_⟩
                · exfalso
                  (try simp (disch := omega) only [bg_w_id, Int.toNat_natCast, rw_land, sh_land, not_true_eq_false, e124, e122, eT', kc0, kc1, kc2, kc3, kc4, kc5, kc6, kc7, kc8, kc9, kc10, kc11, kc12, kc13, kc14, kc15, kc16, kc17, kc18, kc19, kc20, kc21, kc22, kc23, kc24, kc25, kc26, kc27, kc28, kc29, kc30, kc31, kc32, kc33] at q210) <;> (omega)
                · try simp (disch := omega) only [bg_w_id, Int.toNat_natCast, rw_land, sh_land, not_true_eq_false, e124, e122, eT', kc0, kc1, kc2, kc3, kc4, kc5, kc6, kc7, kc8, kc9, kc10, kc11, kc12, kc13, kc14, kc15, kc16, kc17, kc18, kc19, kc20, kc21, kc22, kc23, kc24, kc25, kc26, kc27, kc28, kc29, kc30, kc31, kc32, kc33] at q210
                  iterate 3 (refine hX _ ?_; conv => whnf)
                  refine hX _ ?_; conv => whnf
                  try (simp (disch := omega) only [bg_w_id, Int.toNat_natCast, rw_land, sh_land, not_true_eq_false, e124, e122, eT']; try conv => whnf)
                  refine ⟨by first | omega | (simp (disch := omega) only [bg_w_id, Int.toNat_natCast, rw_land, sh_land, not_true_eq_false, e124, e122, eT']; omega), ?_⟩
                  refine hX _ ?_; conv => whnf
                  refine ⟨fun q220 => ?_, fun q220 => ?_⟩
                  · exfalso
                    (try simp (disch := omega) only [bg_w_id, Int.toNat_natCast, rw_land, sh_land, not_true_eq_false, e124, e122, eT', kc0, kc1, kc2, kc3, kc4, kc5, kc6, kc7, kc8, kc9, kc10, kc11, kc12, kc13, kc14, kc15, kc16, kc17, kc18, kc19, kc20, kc21, kc22, kc23, kc24, kc25, kc26, kc27, kc28, kc29, kc30, kc31, kc32, kc33] at q220) <;> (omega)
                  · try simp (disch := omega) only [bg_w_id, Int.toNat_natCast, rw_land, sh_land, not_true_eq_false, e124, e122, eT', kc0, kc1, kc2, kc3, kc4, kc5, kc6, kc7, kc8, kc9, kc10, kc11, kc12, kc13, kc14, kc15, kc16, kc17, kc18, kc19, kc20, kc21, kc22, kc23, kc24, kc25, kc26, kc27, kc28, kc29, kc30, kc31, kc32, kc33] at q220
                    iterate 3 (refine hX _ ?_; conv => whnf)
                    refine hX _ ?_; conv => whnf
                    try simp (disch := omega) only [bg_w_id, Int.toNat_natCast, rw_land, sh_land, not_true_eq_false, e124, e122, eT']
                    refine s_mgame d n g c hg hc h h' ho hf (by omega) _ ?_
                    rw [e3]
                    conv => whnf
                    iterate 4 (refine hX _ ?_; conv => whnf)
                    refine hX _ ?_; conv => whnf
                    refine ⟨fun q241 => ?_, fun q241 => ?_⟩
                    · try simp (disch := omega) only [bg_w_id, Int.toNat_natCast, rw_land, sh_land, not_true_eq_false, e124, e122, eT', kc0, kc1, kc2, kc3, kc4, kc5, kc6, kc7, kc8, kc9, kc10, kc11, kc12, kc13, kc14, kc15, kc16, kc17, kc18, kc19, kc20, kc21, kc22, kc23, kc24, kc25, kc26, kc27, kc28, kc29, kc30, kc31, kc32, kc33] at q241
                      iterate 4 (refine hX _ ?_; conv => whnf)
                      first
                      | (rw [if_pos (by omega)] at ih2; exact ih2 _ _ _)
                      | (rw [if_neg (by omega)] at ih2; exact ih2 _ _ _)
                    · try simp (disch := omega) only [bg_w_id, Int.toNat_natCast, rw_land, sh_land, not_true_eq_false, e124, e122, eT', kc0, kc1, kc2, kc3, kc4, kc5, kc6, kc7, kc8, kc9, kc10, kc11, kc12, kc13, kc14, kc15, kc16, kc17, kc18, kc19, kc20, kc21, kc22, kc23, kc24, kc25, kc26, kc27, kc28, kc29, kc30, kc31, kc32, kc33] at q241
                      iterate 5 (refine hX _ ?_; conv => whnf)
                      first
                      | (rw [if_pos (by omega)] at ih2; exact ih2 _ _ _)
                      | (rw [if_neg (by omega)] at ih2; exact ih2 _ _ _)
            · have e3 : B g c = 0 := by rw [eB]; unfold bgM; rw [if_neg (fun e => c3 e.2)]
              rw [e3, if_neg (by omega)] at ih2
              iterate 2 (refine hX _ ?_; conv => whnf)
              refine hX _ ?_; conv => whnf
              refine ⟨fun q200 => ?_, fun q200 => ?_⟩
              · exfalso
                (try simp (disch := omega) only [bg_w_id, Int.toNat_natCast, rw_land, sh_land, not_true_eq_false, e124, e122, eT', kc0, kc1, kc2, kc3, kc4, kc5, kc6, kc7, kc8, kc9, kc10, kc11, kc12, kc13, kc14, kc15, kc16, kc17, kc18, kc19, kc20, kc21, kc22, kc23, kc24, kc25, kc26, kc27, kc28, kc29, kc30, kc31, kc32, kc33] at q200) <;> (omega)
              · try simp (disch := omega) only [bg_w_id, Int.toNat_natCast, rw_land, sh_land, not_true_eq_false, e124, e122, eT', kc0, kc1, kc2, kc3, kc4, kc5, kc6, kc7, kc8, kc9, kc10, kc11, kc12, kc13, kc14, kc15, kc16, kc17, kc18, kc19, kc20, kc21, kc22, kc23, kc24, kc25, kc26, kc27, kc28, kc29, kc30, kc31, kc32, kc33] at q200
                iterate 3 (refine hX _ ?_; conv => whnf)
                refine hX _ ?_; conv => whnf
                try (simp (disch := omega) only [bg_w_id, Int.toNat_natCast, rw_land, sh_land, not_true_eq_false, e124, e122, eT']; try conv => whnf)
                refine ⟨by first | omega | (simp (disch := omega) only [bg_w_id, Int.toNat_natCast, rw_land, sh_land, not_true_eq_false, e124, e122, eT']; omega), ?_⟩
                refine hX _ ?_; conv => whnf
                refine ⟨fun q210 => ?_, fun q210 => ?_⟩
                · exfalso
                  (try simp (disch := omega) only [bg_w_id, Int.toNat_natCast, rw_land, sh_land, not_true_eq_false, e124, e122, eT', kc0, kc1, kc2, kc3, kc4, kc5, kc6, kc7, kc8, kc9, kc10, kc11, kc12, kc13, kc14, kc15, kc16, kc17, kc18, kc19, kc20, kc21, kc22, kc23, kc24, kc25, kc26, kc27, kc28, kc29, kc30, kc31, kc32, kc33] at q210) <;> (omega)
                · try simp (disch := omega) only [bg_w_id, Int.toNat_natCast, rw_land, sh_land, not_true_eq_false, e124, e122, eT', kc0, kc1, kc2, kc3, kc4, kc5, kc6, kc7, kc8, kc9, kc10, kc11, kc12, kc13, kc14, kc15, kc16, kc17, kc18, kc19, kc20, kc21, kc22, kc23, kc24, kc25, kc26, kc27, kc28, kc29, kc30, kc31, kc32, kc33] at q210
                  iterate 3 (refine hX _ ?_; conv => whnf)
                  refine hX _ ?_; conv => whnf
                  try (simp (disch := omega) only [bg_w_id, Int.toNat_natCast, rw_land, sh_land, not_true_eq_false, e124, e122, eT']; try conv => whnf)
                  refine ⟨by first | omega | (simp (disch := omega) only [bg_w_id, Int.toNat_natCast, rw_land, sh_land, not_true_eq_false, e124, e122, eT']; omega), ?_⟩
                  refine hX _ ?_; conv => whnf
                  refine ⟨fun q220 => ?_, fun q220 => ?_⟩
                  · try simp (disch := omega) only [bg_w_id, Int.toNat_natCast, rw_land, sh_land, not_true_eq_false, e124, e122, eT', kc0, kc1, kc2, kc3, kc4, kc5, kc6, kc7, kc8, kc9, kc10, kc11, kc12, kc13, kc14, kc15, kc16, kc17, kc18, kc19, kc20, kc21, kc22, kc23, kc24, kc25, kc26, kc27, kc28, kc29, kc30, kc31, kc32, kc33] at q220
                    iterate 4 (refine hX _ ?_; conv => whnf)
                    refine hX _ ?_; conv => whnf
                    refine ⟨fun q241 => ?_, fun q241 => ?_⟩
                    · try simp (disch := omega) only [bg_w_id, Int.toNat_natCast, rw_land, sh_land, not_true_eq_false, e124, e122, eT', kc0, kc1, kc2, kc3, kc4, kc5, kc6, kc7, kc8, kc9, kc10, kc11, kc12, kc13, kc14, kc15, kc16, kc17, kc18, kc19, kc20, kc21, kc22, kc23, kc24, kc25, kc26, kc27, kc28, kc29, kc30, kc31, kc32, kc33] at q241
                      iterate 4 (refine hX _ ?_; conv => whnf)
                      exact ih2 _ _ _
                    · exfalso
                      (try simp (disch := omega) only [bg_w_id, Int.toNat_natCast, rw_land, sh_land, not_true_eq_false, e124, e122, eT', kc0, kc1, kc2, kc3, kc4, kc5, kc6, kc7, kc8, kc9, kc10, kc11, kc12, kc13, kc14, kc15, kc16, kc17, kc18, kc19, kc20, kc21, kc22, kc23, kc24, kc25, kc26, kc27, kc28, kc29, kc30, kc31, kc32, kc33] at q241) <;> (omega)
                  · exfalso
                    (try simp (disch := omega) only [bg_w_id, Int.toNat_natCast, rw_land, sh_land, not_true_eq_false, e124, e122, eT', kc0, kc1, kc2, kc3, kc4, kc5, kc6, kc7, kc8, kc9, kc10, kc11, kc12, kc13, kc14, kc15, kc16, kc17, kc18, kc19, kc20, kc21, kc22, kc23, kc24, kc25, kc26, kc27, kc28, kc29, kc30, kc31, kc32, kc33] at q220) <;> (omega)
        iterate 2 (refine hX _ ?_; conv => whnf)
        refine hX _ ?_; conv => whnf
        refine ⟨fun q188 => ?_, fun q188 => ?_⟩
        · exfalso
          (try simp (disch := omega) only [bg_w_id, Int.toNat_natCast, rw_land, sh_land, not_true_eq_false, kc0, kc1, kc2, kc3, kc4, kc5, kc6, kc7, kc8, kc9, kc10, kc11, kc12, kc13, kc14, kc15, kc16, kc17, kc18, kc19, kc20, kc21, kc22, kc23, kc24, kc25, kc26, kc27, kc28, kc29, kc30, kc31, kc32, kc33] at q188) <;> (omega)
        · try simp (disch := omega) only [bg_w_id, Int.toNat_natCast, rw_land, sh_land, not_true_eq_false, kc0, kc1, kc2, kc3, kc4, kc5, kc6, kc7, kc8, kc9, kc10, kc11, kc12, kc13, kc14, kc15, kc16, kc17, kc18, kc19, kc20, kc21, kc22, kc23, kc24, kc25, kc26, kc27, kc28, kc29, kc30, kc31, kc32, kc33] at q188
          iterate 4 (refine hX _ ?_; conv => whnf)
          exact l2 0 (by omega) _ _ _
  have lB : (∀ g : Nat, g < 4 → T g = 0 ∨ 0 ≤ h 122 g) → ∀ h' : bg_G, frW h h' → Rt (some (.inl (tdF T B))) (bg_SH n, h') → ∀ c, c ≤ 4 → ∀ (j1 j2 j6 j7 j8 : Option bg_V), X (91, [oR 115, j1, j2, oI 0, oI (mxF c (fun c => sm 4 (fun g => T g * B g c))), oI (c : Int), j6, j7, j8], [], (bg_SH n, h'), (0, 0)) := by
    intro hG h' hf hR
    have e124 := hf.1 125 (by omega) (by omega) (by omega) (by omega)
    have e122 := hf.1 123 (by omega) (by omega) (by omega) (by omega)
    refine lp_up 4 _ ?_ (fun c hc ih => ?_)
    · intro j1 j2 j6 j7 j8
      iterate 2 (refine hX _ ?_; conv => whnf)
      refine hX _ ?_; conv => whnf
      refine ⟨fun q94 => ?_, fun q94 => ?_⟩
      · try simp (disch := omega) only [bg_w_id, Int.toNat_natCast, rw_land, sh_land, not_true_eq_false, kc0, kc1, kc2, kc3, kc4, kc5, kc6, kc7, kc8, kc9, kc10, kc11, kc12, kc13, kc14, kc15, kc16, kc17, kc18, kc19, kc20, kc21, kc22, kc23, kc24, kc25, kc26, kc27, kc28, kc29, kc30, kc31, kc32, kc33] at q94
        iterate 2 (refine hX _ ?_; conv => whnf)
        exact lC hG h' hf hR 0 (by omega) _ _ _ _ _
      · exfalso
        (try simp (disch := omega) only [bg_w_id, Int.toNat_natCast, rw_land, sh_land, not_true_eq_false, kc0, kc1, kc2, kc3, kc4, kc5, kc6, kc7, kc8, kc9, kc10, kc11, kc12, kc13, kc14, kc15, kc16, kc17, kc18, kc19, kc20, kc21, kc22, kc23, kc24, kc25, kc26, kc27, kc28, kc29, kc30, kc31, kc32, kc33] at q94) <;> (omega)
    · intro j1 j2 j6 j7 j8
      have ih : ∀ (j1 j2 j6 j7 j8 : Option bg_V), X (91, [oR 115, j1, j2, oI 0, oI (if mxF c (fun c => sm 4 (fun g => T g * B g c)) < sm 4 (fun g => T g * B g c) then sm 4 (fun g => T g * B g c) else mxF c (fun c => sm 4 (fun g => T g * B g c))), oI ((c : Int) + 1), j6, j7, j8], [], (bg_SH n, h'), (0, 0)) := ih
      have rl := hl c hc
      have rm4 := rmean 4 (by omega) c hc
      have rbl := rblind c (by omega)
      by_cases c3 : 0 ≤ h 123 c
      · have l2 : ∀ g, g ≤ 4 → ∀ (j1 j2 j8 : Option bg_V), X (103, [oR 115, j1, j2, oI 0, oI (mxF c (fun c => sm 4 (fun g => T g * B g c))), oI (c : Int), oI (sm g (fun g => T g * B g c)), oI (g : Int), j8], [], (bg_SH n, h'), (0, 0)) := by
          refine lp_up 4 _ ?_ (fun g hg ih2 => ?_)
          · intro j1 j2 j8
            iterate 2 (refine hX _ ?_; conv => whnf)
            refine hX _ ?_; conv => whnf
            refine ⟨fun q106 => ?_, fun q106 => ?_⟩
            · try simp (disch := omega) only [bg_w_id, Int.toNat_natCast, rw_land, sh_land, not_true_eq_false, e122, kc0, kc1, kc2, kc3, kc4, kc5, kc6, kc7, kc8, kc9, kc10, kc11, kc12, kc13, kc14, kc15, kc16, kc17, kc18, kc19, kc20, kc21, kc22, kc23, kc24, kc25, kc26, kc27, kc28, kc29, kc30, kc31, kc32, kc33] at q106
              iterate 2 (refine hX _ ?_; conv => whnf)
              refine hX _ ?_; conv => whnf
              refine ⟨fun q164 => ?_, fun q164 => ?_⟩
              · try simp (disch := omega) only [bg_w_id, Int.toNat_natCast, rw_land, sh_land, not_true_eq_false, e122, kc0, kc1, kc2, kc3, kc4, kc5, kc6, kc7, kc8, kc9, kc10, kc11, kc12, kc13, kc14, kc15, kc16, kc17, kc18, kc19, kc20, kc21, kc22, kc23, kc24, kc25, kc26, kc27, kc28, kc29, kc30, kc31, kc32, kc33] at q164
                iterate 4 (refine hX _ ?_; conv => whnf)
                first
                | (rw [if_pos (by omega)] at ih; exact ih _ _ _ _ _)
                | (rw [if_neg (by omega)] at ih; exact ih _ _ _ _ _)
              · try simp (disch := omega) only [bg_w_id, Int.toNat_natCast, rw_land, sh_land, not_true_eq_false, e122, kc0, kc1, kc2, kc3, kc4, kc5, kc6, kc7, kc8, kc9, kc10, kc11, kc12, kc13, kc14, kc15, kc16, kc17, kc18, kc19, kc20, kc21, kc22, kc23, kc24, kc25, kc26, kc27, kc28, kc29, kc30, kc31, kc32, kc33] at q164
                iterate 5 (refine hX _ ?_; conv => whnf)
                first
                | (rw [if_pos (by omega)] at ih; exact ih _ _ _ _ _)
                | (rw [if_neg (by omega)] at ih; exact ih _ _ _ _ _)
            · exfalso
              (try simp (disch := omega) only [bg_w_id, Int.toNat_natCast, rw_land, sh_land, not_true_eq_false, e122, kc0, kc1, kc2, kc3, kc4, kc5, kc6, kc7, kc8, kc9, kc10, kc11, kc12, kc13, kc14, kc15, kc16, kc17, kc18, kc19, kc20, kc21, kc22, kc23, kc24, kc25, kc26, kc27, kc28, kc29, kc30, kc31, kc32, kc33] at q106) <;> (omega)
          · intro j1 j2 j8
            have ih2 : ∀ (j1 j2 j8 : Option bg_V), X (103, [oR 115, j1, j2, oI 0, oI (mxF c (fun c => sm 4 (fun g => T g * B g c))), oI (c : Int), oI (sm g (fun g => T g * B g c) + T g * B g c), oI ((g : Int) + 1), j8], [], (bg_SH n, h'), (0, 0)) := ih2
            have rg := hT g hg
            by_cases c0 : T g = 0
            · rw [c0, Int.zero_mul] at ih2
              iterate 2 (refine hX _ ?_; conv => whnf)
              refine hX _ ?_; conv => whnf
              refine ⟨fun q106 => ?_, fun q106 => ?_⟩
              · exfalso
                (try simp (disch := omega) only [bg_w_id, Int.toNat_natCast, rw_land, sh_land, not_true_eq_false, e122, e124, eT', c0, kc0, kc1, kc2, kc3, kc4, kc5, kc6, kc7, kc8, kc9, kc10, kc11, kc12, kc13, kc14, kc15, kc16, kc17, kc18, kc19, kc20, kc21, kc22, kc23, kc24, kc25, kc26, kc27, kc28, kc29, kc30, kc31, kc32, kc33] at q106) <;> (omega)
              · try simp (disch := omega) only [bg_w_id, Int.toNat_natCast, rw_land, sh_land, not_true_eq_false, e122, e124, eT', c0, kc0, kc1, kc2, kc3, kc4, kc5, kc6, kc7, kc8, kc9, kc10, kc11, kc12, kc13, kc14, kc15, kc16, kc17, kc18, kc19, kc20, kc21, kc22, kc23, kc24, kc25, kc26, kc27, kc28, kc29, kc30, kc31, kc32, kc33] at q106
                iterate 3 (refine hX _ ?_; conv => whnf)
                refine hX _ ?_; conv => whnf
                try (simp (disch := omega) only [bg_w_id, Int.toNat_natCast, rw_land, sh_land, not_true_eq_false, e122, e124, eT', c0]; try conv => whnf)
                refine ⟨by first | omega | (simp (disch := omega) only [bg_w_id, Int.toNat_natCast, rw_land, sh_land, not_true_eq_false, e122, e124, eT', c0]; omega), ?_⟩
                refine hX _ ?_; conv => whnf
                refine ⟨fun q116 => ?_, fun q116 => ?_⟩
                · exfalso
                  (try simp (disch := omega) only [bg_w_id, Int.toNat_natCast, rw_land, sh_land, not_true_eq_false, e122, e124, eT', c0, kc0, kc1, kc2, kc3, kc4, kc5, kc6, kc7, kc8, kc9, kc10, kc11, kc12, kc13, kc14, kc15, kc16, kc17, kc18, kc19, kc20, kc21, kc22, kc23, kc24, kc25, kc26, kc27, kc28, kc29, kc30, kc31, kc32, kc33] at q116) <;> (omega)
                · try simp (disch := omega) only [bg_w_id, Int.toNat_natCast, rw_land, sh_land, not_true_eq_false, e122, e124, eT', c0, kc0, kc1, kc2, kc3, kc4, kc5, kc6, kc7, kc8, kc9, kc10, kc11, kc12, kc13, kc14, kc15, kc16, kc17, kc18, kc19, kc20, kc21, kc22, kc23, kc24, kc25, kc26, kc27, kc28, kc29, kc30, kc31, kc32, kc33] at q116
                  iterate 4 (refine hX _ ?_; conv => whnf)
                  refine hX _ ?_; conv => whnf
                  try (simp (disch := omega) only [bg_w_id, Int.toNat_natCast, rw_land, sh_land, not_true_eq_false, e122, e124, eT', c0]; try conv => whnf)
                  refine ⟨by first | omega | (simp (disch := omega) only [bg_w_id, Int.toNat_natCast, rw_land, sh_land, not_true_eq_false, e122, e124, eT', c0]; omega), ?_⟩
                  refine hX _ ?_; conv => whnf
                  refine ⟨fun q128 => ?_, fun q128 => ?_⟩
                  · try simp (disch := omega) only [bg_w_id, Int.toNat_natCast, rw_land, sh_land, not_true_eq_false, e122, e124, eT', c0, kc0, kc1, kc2, kc3, kc4, kc5, kc6, kc7, kc8, kc9, kc10, kc11, kc12, kc13, kc14, kc15, kc16, kc17, kc18, kc19, kc20, kc21, kc22, kc23, kc24, kc25, kc26, kc27, kc28, kc29, kc30, kc31, kc32, kc33] at q128
                    iterate 5 (refine hX _ ?_; conv => whnf)
                    exact ih2 _ _ _
                  · exfalso
                    (try simp (disch := omega) only [bg_w_id, Int.toNat_natCast, rw_land, sh_land, not_true_eq_false, e122, e124, eT', c0, kc0, kc1, kc2, kc3, kc4, kc5, kc6, kc7, kc8, kc9, kc10, kc11, kc12, kc13, kc14, kc15, kc16, kc17, kc18, kc19, kc20, kc21, kc22, kc23, kc24, kc25, kc26, kc27, kc28, kc29, kc30, kc31, kc32, kc33] at q128) <;> (omega)
            · have hG1 := (hG g hg).resolve_left c0
              have e3 : gmM h g c = B g c := by rw [eB]; unfold bgM; rw [if_pos ⟨hG1, c3⟩]
              iterate 2 (refine hX _ ?_; conv => whnf)
              refine hX _ ?_; conv => whnf
              refine ⟨fun q106 => ?_, fun q106 => ?_⟩
              · exfalso
                (try simp (disch := omega) only [bg_w_id, Int.toNat_natCast, rw_land, sh_land, not_true_eq_false, e122, e124, eT', kc0, kc1, kc2, kc3, kc4, kc5, kc6, kc7, kc8, kc9, kc10, kc11, kc12, kc13, kc14, kc15, kc16, kc17, kc18, kc19, kc20, kc21, kc22, kc23, kc24, kc25, kc26, kc27, kc28, kc29, kc30, kc31, kc32, kc33] at q106) <;> (omega)
              · try simp (disch := omega) only [bg_w_id, Int.toNat_natCast, rw_land, sh_land, not_true_eq_false, e122, e124, eT', kc0, kc1, kc2, kc3, kc4, kc5, kc6, kc7, kc8, kc9, kc10, kc11, kc12, kc13, kc14, kc15, kc16, kc17, kc18, kc19, kc20, kc21, kc22, kc23, kc24, kc25, kc26, kc27, kc28, kc29, kc30, kc31, kc32, kc33] at q106
                iterate 3 (refine hX _ ?_; conv => whnf)
                refine hX _ ?_; conv => whnf
                try (simp (disch := omega) only [bg_w_id, Int.toNat_natCast, rw_land, sh_land, not_true_eq_false, e122, e124, eT']; try conv => whnf)
                refine ⟨by first | omega | (simp (disch := omega) only [bg_w_id, Int.toNat_natCast, rw_land, sh_land, not_true_eq_false, e122, e124, eT']; omega), ?_⟩
                refine hX _ ?_; conv => whnf
                refine ⟨fun q116 => ?_, fun q116 => ?_⟩
                · exfalso
                  (try simp (disch := omega) only [bg_w_id, Int.toNat_natCast, rw_land, sh_land, not_true_eq_false, e122, e124, eT', kc0, kc1, kc2, kc3, kc4, kc5, kc6, kc7, kc8, kc9, kc10, kc11, kc12, kc13, kc14, kc15, kc16, kc17, kc18, kc19, kc20, kc21, kc22, kc23, kc24, kc25, kc26, kc27, kc28, kc29, kc30, kc31, kc32, kc33] at q116) <;> (omega)
                · try simp (disch := omega) only [bg_w_id, Int.toNat_natCast, rw_land, sh_land, not_true_eq_false, e122, e124, eT', kc0, kc1, kc2, kc3, kc4, kc5, kc6, kc7, kc8, kc9, kc10, kc11, kc12, kc13, kc14, kc15, kc16, kc17, kc18, kc19, kc20, kc21, kc22, kc23, kc24, kc25, kc26, kc27, kc28, kc29, kc30, kc31, kc32, kc33] at q116
                  iterate 4 (refine hX _ ?_; conv => whnf)
                  refine hX _ ?_; conv => whnf
                  try (simp (disch := omega) only [bg_w_id, Int.toNat_natCast, rw_land, sh_land, not_true_eq_false, e122, e124, eT']; try conv => whnf)
                  refine ⟨by first | omega | (simp (disch := omega) only [bg_w_id, Int.toNat_natCast, rw_land, sh_land, not_true_eq_false, e122, e124, eT']; omega), ?_⟩
                  refine hX _ ?_; conv => whnf
                  refine ⟨fun q128 => ?_, fun q128 => ?_⟩
                  · exfalso
                    (try simp (disch := omega) only [bg_w_id, Int.toNat_natCast, rw_land, sh_land, not_true_eq_false, e122, e124, eT', kc0, kc1, kc2, kc3, kc4, kc5, kc6, kc7, kc8, kc9, kc10, kc11, kc12, kc13, kc14, kc15, kc16, kc17, kc18, kc19, kc20, kc21, kc22, kc23, kc24, kc25, kc26, kc27, kc28, kc29, kc30, kc31, kc32, kc33] at q128) <;> (omega)
                  · try simp (disch := omega) only [bg_w_id, Int.toNat_natCast, rw_land, sh_land, not_true_eq_false, e122, e124, eT', kc0, kc1, kc2, kc3, kc4, kc5, kc6, kc7, kc8, kc9, kc10, kc11, kc12, kc13, kc14, kc15, kc16, kc17, kc18, kc19, kc20, kc21, kc22, kc23, kc24, kc25, kc26, kc27, kc28, kc29, kc30, kc31, kc32, kc33] at q128
                    iterate 3 (refine hX _ ?_; conv => whnf)
                    refine hX _ ?_; conv => whnf
                    try (simp (disch := omega) only [bg_w_id, Int.toNat_natCast, rw_land, sh_land, not_true_eq_false, e122, e124, eT']; try conv => whnf)
                    refine ⟨by first | omega | (simp (disch := omega) only [bg_w_id, Int.toNat_natCast, rw_land, sh_land, not_true_eq_false, e122, e124, eT']; omega), ?_⟩
                    iterate 3 (refine hX _ ?_; conv => whnf)
                    refine hX _ ?_; conv => whnf
                    try simp (disch := omega) only [bg_w_id, Int.toNat_natCast, rw_land, sh_land, not_true_eq_false, e122, e124, eT']
                    refine s_mgame d n g c hg hc h h' ho hf (by omega) _ ?_
                    rw [e3]
                    conv => whnf
                    iterate 6 (refine hX _ ?_; conv => whnf)
                    exact ih2 _ _ _
        iterate 2 (refine hX _ ?_; conv => whnf)
        refine hX _ ?_; conv => whnf
        refine ⟨fun q94 => ?_, fun q94 => ?_⟩
        · exfalso
          (try simp (disch := omega) only [bg_w_id, Int.toNat_natCast, rw_land, sh_land, not_true_eq_false, kc0, kc1, kc2, kc3, kc4, kc5, kc6, kc7, kc8, kc9, kc10, kc11, kc12, kc13, kc14, kc15, kc16, kc17, kc18, kc19, kc20, kc21, kc22, kc23, kc24, kc25, kc26, kc27, kc28, kc29, kc30, kc31, kc32, kc33] at q94) <;> (omega)
        · try simp (disch := omega) only [bg_w_id, Int.toNat_natCast, rw_land, sh_land, not_true_eq_false, kc0, kc1, kc2, kc3, kc4, kc5, kc6, kc7, kc8, kc9, kc10, kc11, kc12, kc13, kc14, kc15, kc16, kc17, kc18, kc19, kc20, kc21, kc22, kc23, kc24, kc25, kc26, kc27, kc28, kc29, kc30, kc31, kc32, kc33] at q94
          iterate 4 (refine hX _ ?_; conv => whnf)
          exact l2 0 (by omega) _ _ _
      · have e0 : sm 4 (fun g => T g * B g c) = 0 := by
          rw [sm_congr (g := fun _ => 0) (fun g _ => by rw [eB]; unfold bgM; rw [if_neg (fun e => c3 e.2), Int.mul_zero])]
          exact sm_zero
        rw [e0, if_neg (by omega)] at ih
        iterate 2 (refine hX _ ?_; conv => whnf)
        refine hX _ ?_; conv => whnf
        refine ⟨fun q94 => ?_, fun q94 => ?_⟩
        · exfalso
          (try simp (disch := omega) only [bg_w_id, Int.toNat_natCast, rw_land, sh_land, not_true_eq_false, e122, kc0, kc1, kc2, kc3, kc4, kc5, kc6, kc7, kc8, kc9, kc10, kc11, kc12, kc13, kc14, kc15, kc16, kc17, kc18, kc19, kc20, kc21, kc22, kc23, kc24, kc25, kc26, kc27, kc28, kc29, kc30, kc31, kc32, kc33] at q94) <;> (omega)
        · try simp (disch := omega) only [bg_w_id, Int.toNat_natCast, rw_land, sh_land, not_true_eq_false, e122, kc0, kc1, kc2, kc3, kc4, kc5, kc6, kc7, kc8, kc9, kc10, kc11, kc12, kc13, kc14, kc15, kc16, kc17, kc18, kc19, kc20, kc21, kc22, kc23, kc24, kc25, kc26, kc27, kc28, kc29, kc30, kc31, kc32, kc33] at q94
          iterate 6 (refine hX _ ?_; conv => whnf)
          refine hX _ ?_; conv => whnf
          refine ⟨fun q106 => ?_, fun q106 => ?_⟩
          · exfalso
            (try simp (disch := omega) only [bg_w_id, Int.toNat_natCast, rw_land, sh_land, not_true_eq_false, e122, kc0, kc1, kc2, kc3, kc4, kc5, kc6, kc7, kc8, kc9, kc10, kc11, kc12, kc13, kc14, kc15, kc16, kc17, kc18, kc19, kc20, kc21, kc22, kc23, kc24, kc25, kc26, kc27, kc28, kc29, kc30, kc31, kc32, kc33] at q106) <;> (omega)
          · try simp (disch := omega) only [bg_w_id, Int.toNat_natCast, rw_land, sh_land, not_true_eq_false, e122, kc0, kc1, kc2, kc3, kc4, kc5, kc6, kc7, kc8, kc9, kc10, kc11, kc12, kc13, kc14, kc15, kc16, kc17, kc18, kc19, kc20, kc21, kc22, kc23, kc24, kc25, kc26, kc27, kc28, kc29, kc30, kc31, kc32, kc33] at q106
            iterate 3 (refine hX _ ?_; conv => whnf)
            refine hX _ ?_; conv => whnf
            try (simp (disch := omega) only [bg_w_id, Int.toNat_natCast, rw_land, sh_land, not_true_eq_false, e122]; try conv => whnf)
            refine ⟨by first | omega | (simp (disch := omega) only [bg_w_id, Int.toNat_natCast, rw_land, sh_land, not_true_eq_false, e122]; omega), ?_⟩
            refine hX _ ?_; conv => whnf
            refine ⟨fun q116 => ?_, fun q116 => ?_⟩
            · try simp (disch := omega) only [bg_w_id, Int.toNat_natCast, rw_land, sh_land, not_true_eq_false, e122, kc0, kc1, kc2, kc3, kc4, kc5, kc6, kc7, kc8, kc9, kc10, kc11, kc12, kc13, kc14, kc15, kc16, kc17, kc18, kc19, kc20, kc21, kc22, kc23, kc24, kc25, kc26, kc27, kc28, kc29, kc30, kc31, kc32, kc33] at q116
              iterate 2 (refine hX _ ?_; conv => whnf)
              refine hX _ ?_; conv => whnf
              refine ⟨fun q164 => ?_, fun q164 => ?_⟩
              · try simp (disch := omega) only [bg_w_id, Int.toNat_natCast, rw_land, sh_land, not_true_eq_false, e122, kc0, kc1, kc2, kc3, kc4, kc5, kc6, kc7, kc8, kc9, kc10, kc11, kc12, kc13, kc14, kc15, kc16, kc17, kc18, kc19, kc20, kc21, kc22, kc23, kc24, kc25, kc26, kc27, kc28, kc29, kc30, kc31, kc32, kc33] at q164
                iterate 4 (refine hX _ ?_; conv => whnf)
                exact ih _ _ _ _ _
              · exfalso
                (try simp (disch := omega) only [bg_w_id, Int.toNat_natCast, rw_land, sh_land, not_true_eq_false, e122, kc0, kc1, kc2, kc3, kc4, kc5, kc6, kc7, kc8, kc9, kc10, kc11, kc12, kc13, kc14, kc15, kc16, kc17, kc18, kc19, kc20, kc21, kc22, kc23, kc24, kc25, kc26, kc27, kc28, kc29, kc30, kc31, kc32, kc33] at q164) <;> (omega)
            · exfalso
              (try simp (disch := omega) only [bg_w_id, Int.toNat_natCast, rw_land, sh_land, not_true_eq_false, e122, kc0, kc1, kc2, kc3, kc4, kc5, kc6, kc7, kc8, kc9, kc10, kc11, kc12, kc13, kc14, kc15, kc16, kc17, kc18, kc19, kc20, kc21, kc22, kc23, kc24, kc25, kc26, kc27, kc28, kc29, kc30, kc31, kc32, kc33] at q116) <;> (omega)
  have lA : ∀ g, g ≤ 4 → ∀ (j4 j5 j6 j7 j8 : Option bg_V), X (18, [oR 115, oI (sm g T), oI (alF t0 (fun g => T g = 0 ∨ 0 ≤ h 122 g) g), oI (g : Int), j4, j5, j6, j7, j8], [], (bg_SH n, h), (0, 0)) := by
    refine lp_up 4 _ ?_ (fun g hg ih => ?_)
    · intro j4 j5 j6 j7 j8
      have r4 := smT 4 (by omega)
      rcases alF_1 (t0 := t0) (P := fun g => T g = 0 ∨ 0 ≤ h 122 g) 4 with ⟨e, a1, a2⟩ | ⟨e, a1⟩
      · by_cases c : sm 4 T = 10
        · have hR1 := hR1 (by omega) a2 c
          rw [e]
          iterate 2 (refine hX _ ?_; conv => whnf)
          refine hX _ ?_; conv => whnf
          refine ⟨fun q20 => ?_, fun q20 => ?_⟩
          · try simp (disch := omega) only [bg_w_id, Int.toNat_natCast, rw_land, sh_land, not_true_eq_false, kc0, kc1, kc2, kc3, kc4, kc5, kc6, kc7, kc8, kc9, kc10, kc11, kc12, kc13, kc14, kc15, kc16, kc17, kc18, kc19, kc20, kc21, kc22, kc23, kc24, kc25, kc26, kc27, kc28, kc29, kc30, kc31, kc32, kc33] at q20
            refine hX _ ?_; conv => whnf
            refine hX _ ?_; conv => whnf
            refine ⟨fun q67 => ?_, fun q67 => ?_⟩
            · exfalso
              (try simp (disch := omega) only [bg_w_id, Int.toNat_natCast, rw_land, sh_land, not_true_eq_false, kc0, kc1, kc2, kc3, kc4, kc5, kc6, kc7, kc8, kc9, kc10, kc11, kc12, kc13, kc14, kc15, kc16, kc17, kc18, kc19, kc20, kc21, kc22, kc23, kc24, kc25, kc26, kc27, kc28, kc29, kc30, kc31, kc32, kc33] at q67) <;> (omega)
            · try simp (disch := omega) only [bg_w_id, Int.toNat_natCast, rw_land, sh_land, not_true_eq_false, kc0, kc1, kc2, kc3, kc4, kc5, kc6, kc7, kc8, kc9, kc10, kc11, kc12, kc13, kc14, kc15, kc16, kc17, kc18, kc19, kc20, kc21, kc22, kc23, kc24, kc25, kc26, kc27, kc28, kc29, kc30, kc31, kc32, kc33] at q67
              iterate 2 (refine hX _ ?_; conv => whnf)
              refine hX _ ?_; conv => whnf
              refine ⟨fun q73 => ?_, fun q73 => ?_⟩
              · try simp (disch := omega) only [bg_w_id, Int.toNat_natCast, rw_land, sh_land, not_true_eq_false, kc0, kc1, kc2, kc3, kc4, kc5, kc6, kc7, kc8, kc9, kc10, kc11, kc12, kc13, kc14, kc15, kc16, kc17, kc18, kc19, kc20, kc21, kc22, kc23, kc24, kc25, kc26, kc27, kc28, kc29, kc30, kc31, kc32, kc33] at q73
                refine hX _ ?_; conv => whnf
                refine hX _ ?_; conv => whnf
                try simp (disch := omega) only [bg_w_id, Int.toNat_natCast, rw_land, sh_land, not_true_eq_false]
                refine s_mLW (d + 2) n h ho hw _ (fun h' hf => ?_)
                conv => whnf
                iterate 6 (refine hX _ ?_; conv => whnf)
                exact lB a2 h' hf (hR1 h' hf) 0 (by omega) _ _ _ _ _
              · exfalso
                (try simp (disch := omega) only [bg_w_id, Int.toNat_natCast, rw_land, sh_land, not_true_eq_false, kc0, kc1, kc2, kc3, kc4, kc5, kc6, kc7, kc8, kc9, kc10, kc11, kc12, kc13, kc14, kc15, kc16, kc17, kc18, kc19, kc20, kc21, kc22, kc23, kc24, kc25, kc26, kc27, kc28, kc29, kc30, kc31, kc32, kc33] at q73) <;> (omega)
          · exfalso
            (try simp (disch := omega) only [bg_w_id, Int.toNat_natCast, rw_land, sh_land, not_true_eq_false, kc0, kc1, kc2, kc3, kc4, kc5, kc6, kc7, kc8, kc9, kc10, kc11, kc12, kc13, kc14, kc15, kc16, kc17, kc18, kc19, kc20, kc21, kc22, kc23, kc24, kc25, kc26, kc27, kc28, kc29, kc30, kc31, kc32, kc33] at q20) <;> (omega)
        · rw [e]
          iterate 2 (refine hX _ ?_; conv => whnf)
          refine hX _ ?_; conv => whnf
          refine ⟨fun q20 => ?_, fun q20 => ?_⟩
          · try simp (disch := omega) only [bg_w_id, Int.toNat_natCast, rw_land, sh_land, not_true_eq_false, kc0, kc1, kc2, kc3, kc4, kc5, kc6, kc7, kc8, kc9, kc10, kc11, kc12, kc13, kc14, kc15, kc16, kc17, kc18, kc19, kc20, kc21, kc22, kc23, kc24, kc25, kc26, kc27, kc28, kc29, kc30, kc31, kc32, kc33] at q20
            refine hX _ ?_; conv => whnf
            refine hX _ ?_; conv => whnf
            refine ⟨fun q67 => ?_, fun q67 => ?_⟩
            · exfalso
              (try simp (disch := omega) only [bg_w_id, Int.toNat_natCast, rw_land, sh_land, not_true_eq_false, kc0, kc1, kc2, kc3, kc4, kc5, kc6, kc7, kc8, kc9, kc10, kc11, kc12, kc13, kc14, kc15, kc16, kc17, kc18, kc19, kc20, kc21, kc22, kc23, kc24, kc25, kc26, kc27, kc28, kc29, kc30, kc31, kc32, kc33] at q67) <;> (omega)
            · try simp (disch := omega) only [bg_w_id, Int.toNat_natCast, rw_land, sh_land, not_true_eq_false, kc0, kc1, kc2, kc3, kc4, kc5, kc6, kc7, kc8, kc9, kc10, kc11, kc12, kc13, kc14, kc15, kc16, kc17, kc18, kc19, kc20, kc21, kc22, kc23, kc24, kc25, kc26, kc27, kc28, kc29, kc30, kc31, kc32, kc33] at q67
              iterate 2 (refine hX _ ?_; conv => whnf)
              refine hX _ ?_; conv => whnf
              refine ⟨fun q73 => ?_, fun q73 => ?_⟩
              · exfalso
                (try simp (disch := omega) only [bg_w_id, Int.toNat_natCast, rw_land, sh_land, not_true_eq_false, kc0, kc1, kc2, kc3, kc4, kc5, kc6, kc7, kc8, kc9, kc10, kc11, kc12, kc13, kc14, kc15, kc16, kc17, kc18, kc19, kc20, kc21, kc22, kc23, kc24, kc25, kc26, kc27, kc28, kc29, kc30, kc31, kc32, kc33] at q73) <;> (omega)
              · try simp (disch := omega) only [bg_w_id, Int.toNat_natCast, rw_land, sh_land, not_true_eq_false, kc0, kc1, kc2, kc3, kc4, kc5, kc6, kc7, kc8, kc9, kc10, kc11, kc12, kc13, kc14, kc15, kc16, kc17, kc18, kc19, kc20, kc21, kc22, kc23, kc24, kc25, kc26, kc27, kc28, kc29, kc30, kc31, kc32, kc33] at q73
                refine hX _ ?_; conv => whnf
                refine hX _ ?_; conv => whnf
                exact hR0 (fun e => c e.2.2)
          · exfalso
            (try simp (disch := omega) only [bg_w_id, Int.toNat_natCast, rw_land, sh_land, not_true_eq_false, kc0, kc1, kc2, kc3, kc4, kc5, kc6, kc7, kc8, kc9, kc10, kc11, kc12, kc13, kc14, kc15, kc16, kc17, kc18, kc19, kc20, kc21, kc22, kc23, kc24, kc25, kc26, kc27, kc28, kc29, kc30, kc31, kc32, kc33] at q20) <;> (omega)
      · rw [e]
        iterate 2 (refine hX _ ?_; conv => whnf)
        refine hX _ ?_; conv => whnf
        refine ⟨fun q20 => ?_, fun q20 => ?_⟩
        · try simp (disch := omega) only [bg_w_id, Int.toNat_natCast, rw_land, sh_land, not_true_eq_false, kc0, kc1, kc2, kc3, kc4, kc5, kc6, kc7, kc8, kc9, kc10, kc11, kc12, kc13, kc14, kc15, kc16, kc17, kc18, kc19, kc20, kc21, kc22, kc23, kc24, kc25, kc26, kc27, kc28, kc29, kc30, kc31, kc32, kc33] at q20
          refine hX _ ?_; conv => whnf
          refine hX _ ?_; conv => whnf
          refine ⟨fun q67 => ?_, fun q67 => ?_⟩
          · try simp (disch := omega) only [bg_w_id, Int.toNat_natCast, rw_land, sh_land, not_true_eq_false, kc0, kc1, kc2, kc3, kc4, kc5, kc6, kc7, kc8, kc9, kc10, kc11, kc12, kc13, kc14, kc15, kc16, kc17, kc18, kc19, kc20, kc21, kc22, kc23, kc24, kc25, kc26, kc27, kc28, kc29, kc30, kc31, kc32, kc33] at q67
            refine hX _ ?_; conv => whnf
            refine hX _ ?_; conv => whnf
            exact hR0 (fun e => a1 ⟨by omega, e.2.1⟩)
          · exfalso
            (try simp (disch := omega) only [bg_w_id, Int.toNat_natCast, rw_land, sh_land, not_true_eq_false, kc0, kc1, kc2, kc3, kc4, kc5, kc6, kc7, kc8, kc9, kc10, kc11, kc12, kc13, kc14, kc15, kc16, kc17, kc18, kc19, kc20, kc21, kc22, kc23, kc24, kc25, kc26, kc27, kc28, kc29, kc30, kc31, kc32, kc33] at q67) <;> (omega)
        · exfalso
          (try simp (disch := omega) only [bg_w_id, Int.toNat_natCast, rw_land, sh_land, not_true_eq_false, kc0, kc1, kc2, kc3, kc4, kc5, kc6, kc7, kc8, kc9, kc10, kc11, kc12, kc13, kc14, kc15, kc16, kc17, kc18, kc19, kc20, kc21, kc22, kc23, kc24, kc25, kc26, kc27, kc28, kc29, kc30, kc31, kc32, kc33] at q20) <;> (omega)
    · intro j4 j5 j6 j7 j8
      have rg := hT g hg
      have rG := hr g hg
      have ih : ∀ (j4 j5 j6 j7 j8 : Option bg_V), X (18, [oR 115, oI (sm g T + T g), oI (if alF t0 (fun g => T g = 0 ∨ 0 ≤ h 122 g) g = 0 then 0 else if T g = 0 ∨ 0 ≤ h 122 g then 1 else 0), oI ((g : Int) + 1), j4, j5, j6, j7, j8], [], (bg_SH n, h), (0, 0)) := ih
      rcases alF_1 (t0 := t0) (P := fun g => T g = 0 ∨ 0 ≤ h 122 g) g with ⟨e, a1, a2⟩ | ⟨e, a1⟩
      · rw [e] at ih ⊢
        rw [if_neg (by omega)] at ih
        iterate 2 (refine hX _ ?_; conv => whnf)
        refine hX _ ?_; conv => whnf
        refine ⟨fun q20 => ?_, fun q20 => ?_⟩
        · exfalso
          (try simp (disch := omega) only [bg_w_id, Int.toNat_natCast, rw_land, sh_land, not_true_eq_false, eT', kc0, kc1, kc2, kc3, kc4, kc5, kc6, kc7, kc8, kc9, kc10, kc11, kc12, kc13, kc14, kc15, kc16, kc17, kc18, kc19, kc20, kc21, kc22, kc23, kc24, kc25, kc26, kc27, kc28, kc29, kc30, kc31, kc32, kc33] at q20) <;> (omega)
        · try simp (disch := omega) only [bg_w_id, Int.toNat_natCast, rw_land, sh_land, not_true_eq_false, eT', kc0, kc1, kc2, kc3, kc4, kc5, kc6, kc7, kc8, kc9, kc10, kc11, kc12, kc13, kc14, kc15, kc16, kc17, kc18, kc19, kc20, kc21, kc22, kc23, kc24, kc25, kc26, kc27, kc28, kc29, kc30, kc31, kc32, kc33] at q20
          iterate 4 (refine hX _ ?_; conv => whnf)
          refine hX _ ?_; conv => whnf
          try (simp (disch := omega) only [bg_w_id, Int.toNat_natCast, rw_land, sh_land, not_true_eq_false, eT']; try conv => whnf)
          refine ⟨by first | omega | (simp (disch := omega) only [bg_w_id, Int.toNat_natCast, rw_land, sh_land, not_true_eq_false, eT']; omega), ?_⟩
          iterate 3 (refine hX _ ?_; conv => whnf)
          refine hX _ ?_; conv => whnf
          refine ⟨fun q33 => ?_, fun q33 => ?_⟩
          · exfalso
            (try simp (disch := omega) only [bg_w_id, Int.toNat_natCast, rw_land, sh_land, not_true_eq_false, eT', kc0, kc1, kc2, kc3, kc4, kc5, kc6, kc7, kc8, kc9, kc10, kc11, kc12, kc13, kc14, kc15, kc16, kc17, kc18, kc19, kc20, kc21, kc22, kc23, kc24, kc25, kc26, kc27, kc28, kc29, kc30, kc31, kc32, kc33] at q33) <;> (omega)
          · try simp (disch := omega) only [bg_w_id, Int.toNat_natCast, rw_land, sh_land, not_true_eq_false, eT', kc0, kc1, kc2, kc3, kc4, kc5, kc6, kc7, kc8, kc9, kc10, kc11, kc12, kc13, kc14, kc15, kc16, kc17, kc18, kc19, kc20, kc21, kc22, kc23, kc24, kc25, kc26, kc27, kc28, kc29, kc30, kc31, kc32, kc33] at q33
            iterate 3 (refine hX _ ?_; conv => whnf)
            refine hX _ ?_; conv => whnf
            try (simp (disch := omega) only [bg_w_id, Int.toNat_natCast, rw_land, sh_land, not_true_eq_false, eT']; try conv => whnf)
            refine ⟨by first | omega | (simp (disch := omega) only [bg_w_id, Int.toNat_natCast, rw_land, sh_land, not_true_eq_false, eT']; omega), ?_⟩
            refine hX _ ?_; conv => whnf
            refine ⟨fun q42 => ?_, fun q42 => ?_⟩
            · try simp (disch := omega) only [bg_w_id, Int.toNat_natCast, rw_land, sh_land, not_true_eq_false, eT', kc0, kc1, kc2, kc3, kc4, kc5, kc6, kc7, kc8, kc9, kc10, kc11, kc12, kc13, kc14, kc15, kc16, kc17, kc18, kc19, kc20, kc21, kc22, kc23, kc24, kc25, kc26, kc27, kc28, kc29, kc30, kc31, kc32, kc33] at q42
              iterate 5 (refine hX _ ?_; conv => whnf)
              first
              | (rw [if_pos (by omega)] at ih; exact ih _ _ _ _ _)
              | (rw [if_neg (by omega)] at ih; exact ih _ _ _ _ _)
            · try simp (disch := omega) only [bg_w_id, Int.toNat_natCast, rw_land, sh_land, not_true_eq_false, eT', kc0, kc1, kc2, kc3, kc4, kc5, kc6, kc7, kc8, kc9, kc10, kc11, kc12, kc13, kc14, kc15, kc16, kc17, kc18, kc19, kc20, kc21, kc22, kc23, kc24, kc25, kc26, kc27, kc28, kc29, kc30, kc31, kc32, kc33] at q42
              iterate 3 (refine hX _ ?_; conv => whnf)
              refine hX _ ?_; conv => whnf
              try (simp (disch := omega) only [bg_w_id, Int.toNat_natCast, rw_land, sh_land, not_true_eq_false, eT']; try conv => whnf)
              refine ⟨by first | omega | (simp (disch := omega) only [bg_w_id, Int.toNat_natCast, rw_land, sh_land, not_true_eq_false, eT']; omega), ?_⟩
              refine hX _ ?_; conv => whnf
              refine ⟨fun q51 => ?_, fun q51 => ?_⟩
              · try simp (disch := omega) only [bg_w_id, Int.toNat_natCast, rw_land, sh_land, not_true_eq_false, eT', kc0, kc1, kc2, kc3, kc4, kc5, kc6, kc7, kc8, kc9, kc10, kc11, kc12, kc13, kc14, kc15, kc16, kc17, kc18, kc19, kc20, kc21, kc22, kc23, kc24, kc25, kc26, kc27, kc28, kc29, kc30, kc31, kc32, kc33] at q51
                iterate 4 (refine hX _ ?_; conv => whnf)
                first
                | (rw [if_pos (by omega)] at ih; exact ih _ _ _ _ _)
                | (rw [if_neg (by omega)] at ih; exact ih _ _ _ _ _)
              · try simp (disch := omega) only [bg_w_id, Int.toNat_natCast, rw_land, sh_land, not_true_eq_false, eT', kc0, kc1, kc2, kc3, kc4, kc5, kc6, kc7, kc8, kc9, kc10, kc11, kc12, kc13, kc14, kc15, kc16, kc17, kc18, kc19, kc20, kc21, kc22, kc23, kc24, kc25, kc26, kc27, kc28, kc29, kc30, kc31, kc32, kc33] at q51
                iterate 5 (refine hX _ ?_; conv => whnf)
                first
                | (rw [if_pos (by omega)] at ih; exact ih _ _ _ _ _)
                | (rw [if_neg (by omega)] at ih; exact ih _ _ _ _ _)
      · rw [e] at ih ⊢
        rw [if_pos rfl] at ih
        iterate 2 (refine hX _ ?_; conv => whnf)
        refine hX _ ?_; conv => whnf
        refine ⟨fun q20 => ?_, fun q20 => ?_⟩
        · exfalso
          (try simp (disch := omega) only [bg_w_id, Int.toNat_natCast, rw_land, sh_land, not_true_eq_false, eT', kc0, kc1, kc2, kc3, kc4, kc5, kc6, kc7, kc8, kc9, kc10, kc11, kc12, kc13, kc14, kc15, kc16, kc17, kc18, kc19, kc20, kc21, kc22, kc23, kc24, kc25, kc26, kc27, kc28, kc29, kc30, kc31, kc32, kc33] at q20) <;> (omega)
        · try simp (disch := omega) only [bg_w_id, Int.toNat_natCast, rw_land, sh_land, not_true_eq_false, eT', kc0, kc1, kc2, kc3, kc4, kc5, kc6, kc7, kc8, kc9, kc10, kc11, kc12, kc13, kc14, kc15, kc16, kc17, kc18, kc19, kc20, kc21, kc22, kc23, kc24, kc25, kc26, kc27, kc28, kc29, kc30, kc31, kc32, kc33] at q20
          iterate 4 (refine hX _ ?_; conv => whnf)
          refine hX _ ?_; conv => whnf
          try (simp (disch := omega) only [bg_w_id, Int.toNat_natCast, rw_land, sh_land, not_true_eq_false, eT']; try conv => whnf)
          refine ⟨by first | omega | (simp (disch := omega) only [bg_w_id, Int.toNat_natCast, rw_land, sh_land, not_true_eq_false, eT']; omega), ?_⟩
          iterate 3 (refine hX _ ?_; conv => whnf)
          refine hX _ ?_; conv => whnf
          refine ⟨fun q33 => ?_, fun q33 => ?_⟩
          · try simp (disch := omega) only [bg_w_id, Int.toNat_natCast, rw_land, sh_land, not_true_eq_false, eT', kc0, kc1, kc2, kc3, kc4, kc5, kc6, kc7, kc8, kc9, kc10, kc11, kc12, kc13, kc14, kc15, kc16, kc17, kc18, kc19, kc20, kc21, kc22, kc23, kc24, kc25, kc26, kc27, kc28, kc29, kc30, kc31, kc32, kc33] at q33
            iterate 4 (refine hX _ ?_; conv => whnf)
            exact ih _ _ _ _ _
          · exfalso
            (try simp (disch := omega) only [bg_w_id, Int.toNat_natCast, rw_land, sh_land, not_true_eq_false, eT', kc0, kc1, kc2, kc3, kc4, kc5, kc6, kc7, kc8, kc9, kc10, kc11, kc12, kc13, kc14, kc15, kc16, kc17, kc18, kc19, kc20, kc21, kc22, kc23, kc24, kc25, kc26, kc27, kc28, kc29, kc30, kc31, kc32, kc33] at q33) <;> (omega)
  have st := lA 0 (by omega) none none none none none
  by_cases c : t0 = 0
  · rw [show alF t0 (fun g => T g = 0 ∨ 0 ≤ h 122 g) 0 = if t0 = 0 then 0 else 1 from rfl, if_pos c] at st
    iterate 4 (refine hX _ ?_; conv => whnf)
    refine hX _ ?_; conv => whnf
    try simp (disch := omega) only [bg_w_id, Int.toNat_natCast, rw_land, sh_land, not_true_eq_false]
    refine s_mtoldOnes (d + 3) n 1 (by omega) h hr _ ?_
    rw [toldM_1, ← et0]
    conv => whnf
    refine hX _ ?_; conv => whnf
    refine ⟨fun q7 => ?_, fun q7 => ?_⟩
    · try simp (disch := omega) only [bg_w_id, Int.toNat_natCast, rw_land, sh_land, not_true_eq_false, kc0, kc1, kc2, kc3, kc4, kc5, kc6, kc7, kc8, kc9, kc10, kc11, kc12, kc13, kc14, kc15, kc16, kc17, kc18, kc19, kc20, kc21, kc22, kc23, kc24, kc25, kc26, kc27, kc28, kc29, kc30, kc31, kc32, kc33] at q7
      iterate 4 (refine hX _ ?_; conv => whnf)
      exact st
    · exfalso
      (try simp (disch := omega) only [bg_w_id, Int.toNat_natCast, rw_land, sh_land, not_true_eq_false, kc0, kc1, kc2, kc3, kc4, kc5, kc6, kc7, kc8, kc9, kc10, kc11, kc12, kc13, kc14, kc15, kc16, kc17, kc18, kc19, kc20, kc21, kc22, kc23, kc24, kc25, kc26, kc27, kc28, kc29, kc30, kc31, kc32, kc33] at q7) <;> (omega)
  · rw [show alF t0 (fun g => T g = 0 ∨ 0 ≤ h 122 g) 0 = if t0 = 0 then 0 else 1 from rfl, if_neg c] at st
    iterate 4 (refine hX _ ?_; conv => whnf)
    refine hX _ ?_; conv => whnf
    try simp (disch := omega) only [bg_w_id, Int.toNat_natCast, rw_land, sh_land, not_true_eq_false]
    refine s_mtoldOnes (d + 3) n 1 (by omega) h hr _ ?_
    rw [toldM_1, ← et0]
    conv => whnf
    refine hX _ ?_; conv => whnf
    refine ⟨fun q7 => ?_, fun q7 => ?_⟩
    · exfalso
      (try simp (disch := omega) only [bg_w_id, Int.toNat_natCast, rw_land, sh_land, not_true_eq_false, kc0, kc1, kc2, kc3, kc4, kc5, kc6, kc7, kc8, kc9, kc10, kc11, kc12, kc13, kc14, kc15, kc16, kc17, kc18, kc19, kc20, kc21, kc22, kc23, kc24, kc25, kc26, kc27, kc28, kc29, kc30, kc31, kc32, kc33] at q7) <;> (omega)
    · try simp (disch := omega) only [bg_w_id, Int.toNat_natCast, rw_land, sh_land, not_true_eq_false, kc0, kc1, kc2, kc3, kc4, kc5, kc6, kc7, kc8, kc9, kc10, kc11, kc12, kc13, kc14, kc15, kc16, kc17, kc18, kc19, kc20, kc21, kc22, kc23, kc24, kc25, kc26, kc27, kc28, kc29, kc30, kc31, kc32, kc33] at q7
      iterate 5 (refine hX _ ?_; conv => whnf)
      exact st
