theorem s_mholds (d n a b : Nat) (B : Nat → Nat → Int) (hG : BG B) (h : bg_G) (hl : LAID h) (hB : ∀ g c : Nat, g < 4 → c < 4 → 0 ≤ h 122 g → 0 ≤ h 123 c → gmM h g c = B g c) (hta : ∀ g : Nat, g < 4 → a.testBit g = true → 0 ≤ h 122 g) (htb : ∀ c : Nat, c < 4 → b.testBit c = true → 0 ≤ h 123 c) (hs : SLV h B a b) (Rt : bg_R) (hR1 : ndb B (tgM h) (tcM h) a b 4 → Rt (some (.inl 1)) (bg_SH n, h)) (hR0 : ¬ ndb B (tgM h) (tcM h) a b 4 → Rt (some (.inl 0)) (bg_SH n, h)) : bg_Ca bg_MS (d + 5) 173 [vR 115] (bg_SH n, h) Rt := by
  have rl : ∀ k : Nat, k < 4 → i32 (h 122 k) ∧ i32 (h 123 k) := fun k hk => by
    have x := hl.2.2.2 k hk
    have wl : (wsM h).length ≤ 400 := wsG_len _ _ _
    refine ⟨?_, by omega⟩
    rcases x.1 with e | ⟨e1, e2⟩
    · omega
    · have := e1.1
      omega
  have g16 : tgM h < 16 := tSet_lt _
  have c16 : tcM h < 16 := tSet_lt _
  have tg : ∀ g : Nat, g < 4 → ((tgM h).testBit g = true ↔ 0 ≤ h 122 g) := fun g hg => tS_b (fun k => h 122 k) hg
  have tc : ∀ c : Nat, c < 4 → ((tcM h).testBit c = true ↔ 0 ≤ h 123 c) := fun c hc => tS_b (fun k => h 123 k) hc
  have rv : -96000000000000 ≤ vlF B a b ∧ vlF B a b ≤ 96000000000000 := mBy_rg hG a b (mb a 0)
  have e28 := hs.1
  refine bg_ca (cd := cd_X9_holds) rfl rfl ?_
  intro X hX
  -- the guards
  have l3 : ∀ i, i ≤ 4 → ∀ (al : Int) (j5 j7 : Option bg_V), ((al = 1 ∧ ((∀ c, c < 4 → (tcM h).testBit c = true → ¬ vlF B a b < mOf B a b c) ∧ ∀ g, g < i → (tgM h).testBit g = true → ¬ mBy B a b g < vlF B a b)) ∨ (al = 0 ∧ ¬ ((∀ c, c < 4 → (tcM h).testBit c = true → ¬ vlF B a b < mOf B a b c) ∧ ∀ g, g < i → (tgM h).testBit g = true → ¬ mBy B a b g < vlF B a b))) → X (123, [oR 115, oI (tgM h : Nat), oI (tcM h : Nat), oI al, oI (i : Int), j5, none, j7], [], (bg_SH n, h), (0, 0)) := by
    refine lp_up 4 _ ?_ (fun i hi ih => ?_)
    · intro al j5 j7 f
      have mx : ndb B (tgM h) (tcM h) a b 4 ↔ ((∀ c, c < 4 → (tcM h).testBit c = true → ¬ vlF B a b < mOf B a b c) ∧ ∀ g, g < 4 → (tgM h).testBit g = true → ¬ mBy B a b g < vlF B a b) := ⟨fun x => ⟨fun c hc => (x c hc).2, fun g hg => (x g hg).1⟩, fun x k hk => ⟨x.2 k hk, x.1 k hk⟩⟩
      iterate 2 (refine hX _ ?_; conv => whnf)
      refine hX _ ?_; conv => whnf
      refine ⟨fun q126 => ?_, fun q126 => ?_⟩
      · try simp (disch := omega) only [bg_w_id, Int.toNat_natCast, rw_land, sh_land, not_true_eq_false, kc0, kc1, kc2, kc3, kc4, kc5, kc6, kc7, kc8, kc9, kc10, kc11, kc12, kc13, kc14, kc15, kc16, kc17, kc18, kc19, kc20, kc21, kc22, kc23, kc24, kc25, kc26, kc27, kc28, kc29, kc30, kc31, kc32, kc33] at q126
        refine hX _ ?_; conv => whnf
        refine hX _ ?_; conv => whnf
        rcases f with ⟨x, y⟩ | ⟨x, y⟩
        · subst x
          exact ⟨by omega, hR1 (mx.2 y)⟩
        · subst x
          exact ⟨by omega, hR0 (fun z => y (mx.1 z))⟩
      · exfalso
        (try simp (disch := omega) only [bg_w_id, Int.toNat_natCast, rw_land, sh_land, not_true_eq_false, kc0, kc1, kc2, kc3, kc4, kc5, kc6, kc7, kc8, kc9, kc10, kc11, kc12, kc13, kc14, kc15, kc16, kc17, kc18, kc19, kc20, kc21, kc22, kc23, kc24, kc25, kc26, kc27, kc28, kc29, kc30, kc31, kc32, kc33] at q126) <;> (omega)
    · intro al j5 j7 f
      have eb := bt_set g16 hi
      have rm := mBy_rg hG a b i
      have al01 : al = 0 ∨ al = 1 := by rcases f with ⟨x, _⟩ | ⟨x, _⟩ <;> omega
      have nx : ∀ (al2 : Int) (j5 j7 : Option bg_V), ((al2 = 1 ∧ (al = 1 ∧ ((tgM h).testBit i = true → ¬ mBy B a b i < vlF B a b))) ∨ (al2 = 0 ∧ ¬ (al = 1 ∧ ((tgM h).testBit i = true → ¬ mBy B a b i < vlF B a b)))) → X (123, [oR 115, oI (tgM h : Nat), oI (tcM h : Nat), oI al2, oI ((i : Int) + 1), j5, none, j7], [], (bg_SH n, h), (0, 0)) := by
        intro al2 j5 j7 ha2
        refine ih al2 j5 j7 ?_
        have key : ((∀ c, c < 4 → (tcM h).testBit c = true → ¬ vlF B a b < mOf B a b c) ∧ ∀ g, g < i + 1 → (tgM h).testBit g = true → ¬ mBy B a b g < vlF B a b) ↔ (((∀ c, c < 4 → (tcM h).testBit c = true → ¬ vlF B a b < mOf B a b c) ∧ ∀ g, g < i → (tgM h).testBit g = true → ¬ mBy B a b g < vlF B a b) ∧ ((tgM h).testBit i = true → ¬ mBy B a b i < vlF B a b)) := by
          constructor
          · intro ⟨p, q⟩
            exact ⟨⟨p, fun g hg => q g (by omega)⟩, q i (by omega)⟩
          · intro ⟨⟨p, q⟩, r⟩
            refine ⟨p, fun g hg => ?_⟩
            by_cases e : g = i
            · subst e; exact r
            · exact q g (by omega)
        rw [key]
        rcases f with ⟨x, y⟩ | ⟨x, y⟩
        · rcases ha2 with ⟨u, v⟩ | ⟨u, v⟩
          · exact Or.inl ⟨u, y, v.2⟩
          · exact Or.inr ⟨u, fun z => v ⟨x, z.2⟩⟩
        · rcases ha2 with ⟨u, v⟩ | ⟨u, v⟩
          · omega
          · exact Or.inr ⟨u, fun z => y z.1⟩
      by_cases c1 : (tgM h).testBit i = true
      · rw [if_pos c1] at eb
        have hi0 := (tg i hi).1 c1
        have x193 : ∀ j7 : Option bg_V, X (193, [oR 115, oI (tgM h : Nat), oI (tcM h : Nat), oI al, oI (i : Int), oL (mBy B a b i), none, j7], [], (bg_SH n, h), (0, 0)) := by
          intro j7
          refine hX _ ?_; conv => whnf
          refine hX _ ?_; conv => whnf
          refine ⟨fun q194 => ?_, fun q194 => ?_⟩
          · try simp (disch := omega) only [bg_w_id, Int.toNat_natCast, rw_land, sh_land, not_true_eq_false, e28, kc0, kc1, kc2, kc3, kc4, kc5, kc6, kc7, kc8, kc9, kc10, kc11, kc12, kc13, kc14, kc15, kc16, kc17, kc18, kc19, kc20, kc21, kc22, kc23, kc24, kc25, kc26, kc27, kc28, kc29, kc30, kc31, kc32, kc33] at q194
            iterate 4 (refine hX _ ?_; conv => whnf)
            first
            | exact nx 1 _ _ (Or.inl ⟨rfl, by omega, fun _ => q213⟩)
            | exact nx 0 _ _ (Or.inr ⟨rfl, fun x => x.2 c1 q213⟩)
            | exact nx 0 _ _ (Or.inr ⟨rfl, fun x => absurd x.1 (by omega)⟩)
          · try simp (disch := omega) only [bg_w_id, Int.toNat_natCast, rw_land, sh_land, not_true_eq_false, e28, kc0, kc1, kc2, kc3, kc4, kc5, kc6, kc7, kc8, kc9, kc10, kc11, kc12, kc13, kc14, kc15, kc16, kc17, kc18, kc19, kc20, kc21, kc22, kc23, kc24, kc25, kc26, kc27, kc28, kc29, kc30, kc31, kc32, kc33] at q194
            iterate 2 (refine hX _ ?_; conv => whnf)
            refine hX _ ?_; conv => whnf
            try simp (disch := omega) only [bg_w_id, Int.toNat_natCast, rw_land, sh_land, not_true_eq_false, e28]
            refine s_has (d + 3) _ _ _ _ ?_
            rw [eb]
            conv => whnf
            refine hX _ ?_; conv => whnf
            refine ⟨fun q203 => ?_, fun q203 => ?_⟩
            · exfalso
              (try simp (disch := omega) only [bg_w_id, Int.toNat_natCast, rw_land, sh_land, not_true_eq_false, e28, kc0, kc1, kc2, kc3, kc4, kc5, kc6, kc7, kc8, kc9, kc10, kc11, kc12, kc13, kc14, kc15, kc16, kc17, kc18, kc19, kc20, kc21, kc22, kc23, kc24, kc25, kc26, kc27, kc28, kc29, kc30, kc31, kc32, kc33] at q203) <;> (omega)
            · try simp (disch := omega) only [bg_w_id, Int.toNat_natCast, rw_land, sh_land, not_true_eq_false, e28, kc0, kc1, kc2, kc3, kc4, kc5, kc6, kc7, kc8, kc9, kc10, kc11, kc12, kc13, kc14, kc15, kc16, kc17, kc18, kc19, kc20, kc21, kc22, kc23, kc24, kc25, kc26, kc27, kc28, kc29, kc30, kc31, kc32, kc33] at q203
              iterate 4 (refine hX _ ?_; conv => whnf)
              try simp only [kc0, kc1, kc2, kc3, kc4, kc5, kc6, kc7, kc8, kc9, kc10, kc11, kc12, kc13, kc14, kc15, kc16, kc17, kc18, kc19, kc20, kc21, kc22, kc23, kc24, kc25, kc26, kc27, kc28, kc29, kc30, kc31, kc32, kc33]
              refine hX _ ?_; conv => whnf
              refine ⟨fun q213 => ?_, fun q213 => ?_⟩
              · try simp (disch := omega) only [bg_w_id, Int.toNat_natCast, rw_land, sh_land, not_true_eq_false, e28, kc0, kc1, kc2, kc3, kc4, kc5, kc6, kc7, kc8, kc9, kc10, kc11, kc12, kc13, kc14, kc15, kc16, kc17, kc18, kc19, kc20, kc21, kc22, kc23, kc24, kc25, kc26, kc27, kc28, kc29, kc30, kc31, kc32, kc33] at q213
                rw [bg_Cmp_lt, bg_W_id (by omega) (by omega), bg_W_id (by omega) (by omega)] at q213
                iterate 4 (refine hX _ ?_; conv => whnf)
                first
                | exact nx 1 _ _ (Or.inl ⟨rfl, by omega, fun _ => q213⟩)
                | exact nx 0 _ _ (Or.inr ⟨rfl, fun x => x.2 c1 q213⟩)
                | exact nx 0 _ _ (Or.inr ⟨rfl, fun x => absurd x.1 (by omega)⟩)
              · try simp (disch := omega) only [bg_w_id, Int.toNat_natCast, rw_land, sh_land, not_true_eq_false, e28, kc0, kc1, kc2, kc3, kc4, kc5, kc6, kc7, kc8, kc9, kc10, kc11, kc12, kc13, kc14, kc15, kc16, kc17, kc18, kc19, kc20, kc21, kc22, kc23, kc24, kc25, kc26, kc27, kc28, kc29, kc30, kc31, kc32, kc33] at q213
                rw [bg_Cmp_lt, bg_W_id (by omega) (by omega), bg_W_id (by omega) (by omega)] at q213
                iterate 5 (refine hX _ ?_; conv => whnf)
                first
                | exact nx 1 _ _ (Or.inl ⟨rfl, by omega, fun _ => q213⟩)
                | exact nx 0 _ _ (Or.inr ⟨rfl, fun x => x.2 c1 q213⟩)
                | exact nx 0 _ _ (Or.inr ⟨rfl, fun x => absurd x.1 (by omega)⟩)
        have l4 : ∀ c, c ≤ 4 → X (135, [oR 115, oI (tgM h : Nat), oI (tcM h : Nat), oI al, oI (i : Int), oL (sm c (fun c => sgW B a b * CP B a b c * B i c)), none, oI (c : Int)], [], (bg_SH n, h), (0, 0)) := by
          refine lp_up 4 _ ?_ (fun c hc ih2 => ?_)
          · iterate 2 (refine hX _ ?_; conv => whnf)
            refine hX _ ?_; conv => whnf
            refine ⟨fun q138 => ?_, fun q138 => ?_⟩
            · try simp (disch := omega) only [bg_w_id, Int.toNat_natCast, rw_land, sh_land, not_true_eq_false, kc0, kc1, kc2, kc3, kc4, kc5, kc6, kc7, kc8, kc9, kc10, kc11, kc12, kc13, kc14, kc15, kc16, kc17, kc18, kc19, kc20, kc21, kc22, kc23, kc24, kc25, kc26, kc27, kc28, kc29, kc30, kc31, kc32, kc33] at q138
              exact x193 _
            · exfalso
              (try simp (disch := omega) only [bg_w_id, Int.toNat_natCast, rw_land, sh_land, not_true_eq_false, kc0, kc1, kc2, kc3, kc4, kc5, kc6, kc7, kc8, kc9, kc10, kc11, kc12, kc13, kc14, kc15, kc16, kc17, kc18, kc19, kc20, kc21, kc22, kc23, kc24, kc25, kc26, kc27, kc28, kc29, kc30, kc31, kc32, kc33] at q138) <;> (omega)
          · have ebc := bt_set c16 hc
            have ea := (hs.2.2 c hc).2
            rw [sm_s] at ih2
            by_cases c2 : (tcM h).testBit c = true
            · rw [if_pos c2] at ebc
              have hc0 := (tc c hc).1 c2
              have eg := hB i c hi hc hi0 hc0
              have rb := hG i c
              iterate 2 (refine hX _ ?_; conv => whnf)
              refine hX _ ?_; conv => whnf
              refine ⟨fun q138 => ?_, fun q138 => ?_⟩
              · exfalso
                (try simp (disch := omega) only [bg_w_id, Int.toNat_natCast, rw_land, sh_land, not_true_eq_false, ea, kc0, kc1, kc2, kc3, kc4, kc5, kc6, kc7, kc8, kc9, kc10, kc11, kc12, kc13, kc14, kc15, kc16, kc17, kc18, kc19, kc20, kc21, kc22, kc23, kc24, kc25, kc26, kc27, kc28, kc29, kc30, kc31, kc32, kc33] at q138) <;> (omega)
              · try simp (disch := omega) only [bg_w_id, Int.toNat_natCast, rw_land, sh_land, not_true_eq_false, ea, kc0, kc1, kc2, kc3, kc4, kc5, kc6, kc7, kc8, kc9, kc10, kc11, kc12, kc13, kc14, kc15, kc16, kc17, kc18, kc19, kc20, kc21, kc22, kc23, kc24, kc25, kc26, kc27, kc28, kc29, kc30, kc31, kc32, kc33] at q138
                iterate 2 (refine hX _ ?_; conv => whnf)
                refine hX _ ?_; conv => whnf
                try simp (disch := omega) only [bg_w_id, Int.toNat_natCast, rw_land, sh_land, not_true_eq_false, ea]
                refine s_has (d + 3) _ _ _ _ ?_
                rw [eb]
                conv => whnf
                refine hX _ ?_; conv => whnf
                refine ⟨fun q147 => ?_, fun q147 => ?_⟩
                · exfalso
                  (try simp (disch := omega) only [bg_w_id, Int.toNat_natCast, rw_land, sh_land, not_true_eq_false, ea, kc0, kc1, kc2, kc3, kc4, kc5, kc6, kc7, kc8, kc9, kc10, kc11, kc12, kc13, kc14, kc15, kc16, kc17, kc18, kc19, kc20, kc21, kc22, kc23, kc24, kc25, kc26, kc27, kc28, kc29, kc30, kc31, kc32, kc33] at q147) <;> (omega)
                · try simp (disch := omega) only [bg_w_id, Int.toNat_natCast, rw_land, sh_land, not_true_eq_false, ea, kc0, kc1, kc2, kc3, kc4, kc5, kc6, kc7, kc8, kc9, kc10, kc11, kc12, kc13, kc14, kc15, kc16, kc17, kc18, kc19, kc20, kc21, kc22, kc23, kc24, kc25, kc26, kc27, kc28, kc29, kc30, kc31, kc32, kc33] at q147
                  iterate 3 (refine hX _ ?_; conv => whnf)
                  refine hX _ ?_; conv => whnf
                  try simp (disch := omega) only [bg_w_id, Int.toNat_natCast, rw_land, sh_land, not_true_eq_false, ea]
                  refine s_has (d + 3) _ _ _ _ ?_
                  rw [ebc]
                  conv => whnf
                  refine hX _ ?_; conv => whnf
                  refine ⟨fun q158 => ?_, fun q158 => ?_⟩
                  · exfalso
                    (try simp (disch := omega) only [bg_w_id, Int.toNat_natCast, rw_land, sh_land, not_true_eq_false, ea, kc0, kc1, kc2, kc3, kc4, kc5, kc6, kc7, kc8, kc9, kc10, kc11, kc12, kc13, kc14, kc15, kc16, kc17, kc18, kc19, kc20, kc21, kc22, kc23, kc24, kc25, kc26, kc27, kc28, kc29, kc30, kc31, kc32, kc33] at q158) <;> (omega)
                  · try simp (disch := omega) only [bg_w_id, Int.toNat_natCast, rw_land, sh_land, not_true_eq_false, ea, kc0, kc1, kc2, kc3, kc4, kc5, kc6, kc7, kc8, kc9, kc10, kc11, kc12, kc13, kc14, kc15, kc16, kc17, kc18, kc19, kc20, kc21, kc22, kc23, kc24, kc25, kc26, kc27, kc28, kc29, kc30, kc31, kc32, kc33] at q158
                    iterate 5 (refine hX _ ?_; conv => whnf)
                    refine hX _ ?_; conv => whnf
                    try (simp (disch := omega) only [bg_w_id, Int.toNat_natCast, rw_land, sh_land, not_true_eq_false, ea]; try conv => whnf)
                    refine ⟨by first | omega | (simp (disch := omega) only [bg_w_id, Int.toNat_natCast, rw_land, sh_land, not_true_eq_false, ea]; omega), ?_⟩
                    iterate 3 (refine hX _ ?_; conv => whnf)
                    refine hX _ ?_; conv => whnf
                    try simp (disch := omega) only [bg_w_id, Int.toNat_natCast, rw_land, sh_land, not_true_eq_false, ea]
                    refine s_mgm d n i c hi hc h hl hc0 _ ?_
                    rw [eg]
                    conv => whnf
                    iterate 7 (refine hX _ ?_; conv => whnf)
                    try simp (disch := omega) only [bg_w_id, Int.toNat_natCast, rw_land, sh_land, not_true_eq_false, ea]
                    try rw [ea]
                    try rw [bg_w_id (by omega) (by omega)]
                    exact ih2
            · rw [if_neg c2] at ebc
              have z : CP B a b c = 0 := CP_out (fun x => c2 ((tc c hc).2 (htb c hc x)))
              rw [z, Int.mul_zero, Int.zero_mul] at ih2
              iterate 2 (refine hX _ ?_; conv => whnf)
              refine hX _ ?_; conv => whnf
              refine ⟨fun q138 => ?_, fun q138 => ?_⟩
              · exfalso
                (try simp (disch := omega) only [bg_w_id, Int.toNat_natCast, rw_land, sh_land, not_true_eq_false, kc0, kc1, kc2, kc3, kc4, kc5, kc6, kc7, kc8, kc9, kc10, kc11, kc12, kc13, kc14, kc15, kc16, kc17, kc18, kc19, kc20, kc21, kc22, kc23, kc24, kc25, kc26, kc27, kc28, kc29, kc30, kc31, kc32, kc33] at q138) <;> (omega)
              · try simp (disch := omega) only [bg_w_id, Int.toNat_natCast, rw_land, sh_land, not_true_eq_false, kc0, kc1, kc2, kc3, kc4, kc5, kc6, kc7, kc8, kc9, kc10, kc11, kc12, kc13, kc14, kc15, kc16, kc17, kc18, kc19, kc20, kc21, kc22, kc23, kc24, kc25, kc26, kc27, kc28, kc29, kc30, kc31, kc32, kc33] at q138
                iterate 2 (refine hX _ ?_; conv => whnf)
                refine hX _ ?_; conv => whnf
                try simp (disch := omega) only [bg_w_id, Int.toNat_natCast, rw_land, sh_land, not_true_eq_false]
                refine s_has (d + 3) _ _ _ _ ?_
                rw [eb]
                conv => whnf
                refine hX _ ?_; conv => whnf
                refine ⟨fun q147 => ?_, fun q147 => ?_⟩
                · exfalso
                  (try simp (disch := omega) only [bg_w_id, Int.toNat_natCast, rw_land, sh_land, not_true_eq_false, kc0, kc1, kc2, kc3, kc4, kc5, kc6, kc7, kc8, kc9, kc10, kc11, kc12, kc13, kc14, kc15, kc16, kc17, kc18, kc19, kc20, kc21, kc22, kc23, kc24, kc25, kc26, kc27, kc28, kc29, kc30, kc31, kc32, kc33] at q147) <;> (omega)
                · try simp (disch := omega) only [bg_w_id, Int.toNat_natCast, rw_land, sh_land, not_true_eq_false, kc0, kc1, kc2, kc3, kc4, kc5, kc6, kc7, kc8, kc9, kc10, kc11, kc12, kc13, kc14, kc15, kc16, kc17, kc18, kc19, kc20, kc21, kc22, kc23, kc24, kc25, kc26, kc27, kc28, kc29, kc30, kc31, kc32, kc33] at q147
                  iterate 3 (refine hX _ ?_; conv => whnf)
                  refine hX _ ?_; conv => whnf
                  try simp (disch := omega) only [bg_w_id, Int.toNat_natCast, rw_land, sh_land, not_true_eq_false]
                  refine s_has (d + 3) _ _ _ _ ?_
                  rw [ebc]
                  conv => whnf
                  refine hX _ ?_; conv => whnf
                  refine ⟨fun q158 => ?_, fun q158 => ?_⟩
                  · try simp (disch := omega) only [bg_w_id, Int.toNat_natCast, rw_land, sh_land, not_true_eq_false, kc0, kc1, kc2, kc3, kc4, kc5, kc6, kc7, kc8, kc9, kc10, kc11, kc12, kc13, kc14, kc15, kc16, kc17, kc18, kc19, kc20, kc21, kc22, kc23, kc24, kc25, kc26, kc27, kc28, kc29, kc30, kc31, kc32, kc33] at q158
                    iterate 5 (refine hX _ ?_; conv => whnf)
                    exact ih2
                  · exfalso
                    (try simp (disch := omega) only [bg_w_id, Int.toNat_natCast, rw_land, sh_land, not_true_eq_false, kc0, kc1, kc2, kc3, kc4, kc5, kc6, kc7, kc8, kc9, kc10, kc11, kc12, kc13, kc14, kc15, kc16, kc17, kc18, kc19, kc20, kc21, kc22, kc23, kc24, kc25, kc26, kc27, kc28, kc29, kc30, kc31, kc32, kc33] at q158) <;> (omega)
        iterate 2 (refine hX _ ?_; conv => whnf)
        refine hX _ ?_; conv => whnf
        refine ⟨fun q126 => ?_, fun q126 => ?_⟩
        · exfalso
          (try simp (disch := omega) only [bg_w_id, Int.toNat_natCast, rw_land, sh_land, not_true_eq_false, kc0, kc1, kc2, kc3, kc4, kc5, kc6, kc7, kc8, kc9, kc10, kc11, kc12, kc13, kc14, kc15, kc16, kc17, kc18, kc19, kc20, kc21, kc22, kc23, kc24, kc25, kc26, kc27, kc28, kc29, kc30, kc31, kc32, kc33] at q126) <;> (omega)
        · try simp (disch := omega) only [bg_w_id, Int.toNat_natCast, rw_land, sh_land, not_true_eq_false, kc0, kc1, kc2, kc3, kc4, kc5, kc6, kc7, kc8, kc9, kc10, kc11, kc12, kc13, kc14, kc15, kc16, kc17, kc18, kc19, kc20, kc21, kc22, kc23, kc24, kc25, kc26, kc27, kc28, kc29, kc30, kc31, kc32, kc33] at q126
          iterate 4 (refine hX _ ?_; conv => whnf)
          exact l4 0 (by omega)
      · rw [if_neg c1] at eb
        have x193 : ∀ (v : Int) (j7 : Option bg_V), X (193, [oR 115, oI (tgM h : Nat), oI (tcM h : Nat), oI al, oI (i : Int), oL v, none, j7], [], (bg_SH n, h), (0, 0)) := by
          intro v j7
          refine hX _ ?_; conv => whnf
          refine hX _ ?_; conv => whnf
          refine ⟨fun q194 => ?_, fun q194 => ?_⟩
          · try simp (disch := omega) only [bg_w_id, Int.toNat_natCast, rw_land, sh_land, not_true_eq_false, e28, kc0, kc1, kc2, kc3, kc4, kc5, kc6, kc7, kc8, kc9, kc10, kc11, kc12, kc13, kc14, kc15, kc16, kc17, kc18, kc19, kc20, kc21, kc22, kc23, kc24, kc25, kc26, kc27, kc28, kc29, kc30, kc31, kc32, kc33] at q194
            iterate 4 (refine hX _ ?_; conv => whnf)
            first
            | exact nx 1 _ _ (Or.inl ⟨rfl, by omega, fun x => absurd x c1⟩)
            | exact nx 0 _ _ (Or.inr ⟨rfl, fun x => absurd x.1 (by omega)⟩)
          · try simp (disch := omega) only [bg_w_id, Int.toNat_natCast, rw_land, sh_land, not_true_eq_false, e28, kc0, kc1, kc2, kc3, kc4, kc5, kc6, kc7, kc8, kc9, kc10, kc11, kc12, kc13, kc14, kc15, kc16, kc17, kc18, kc19, kc20, kc21, kc22, kc23, kc24, kc25, kc26, kc27, kc28, kc29, kc30, kc31, kc32, kc33] at q194
            iterate 2 (refine hX _ ?_; conv => whnf)
            refine hX _ ?_; conv => whnf
            try simp (disch := omega) only [bg_w_id, Int.toNat_natCast, rw_land, sh_land, not_true_eq_false, e28]
            refine s_has (d + 3) _ _ _ _ ?_
            rw [eb]
            conv => whnf
            refine hX _ ?_; conv => whnf
            refine ⟨fun q203 => ?_, fun q203 => ?_⟩
            · try simp (disch := omega) only [bg_w_id, Int.toNat_natCast, rw_land, sh_land, not_true_eq_false, e28, kc0, kc1, kc2, kc3, kc4, kc5, kc6, kc7, kc8, kc9, kc10, kc11, kc12, kc13, kc14, kc15, kc16, kc17, kc18, kc19, kc20, kc21, kc22, kc23, kc24, kc25, kc26, kc27, kc28, kc29, kc30, kc31, kc32, kc33] at q203
              iterate 5 (refine hX _ ?_; conv => whnf)
              first
              | exact nx 1 _ _ (Or.inl ⟨rfl, by omega, fun x => absurd x c1⟩)
              | exact nx 0 _ _ (Or.inr ⟨rfl, fun x => absurd x.1 (by omega)⟩)
            · exfalso
              (try simp (disch := omega) only [bg_w_id, Int.toNat_natCast, rw_land, sh_land, not_true_eq_false, e28, kc0, kc1, kc2, kc3, kc4, kc5, kc6, kc7, kc8, kc9, kc10, kc11, kc12, kc13, kc14, kc15, kc16, kc17, kc18, kc19, kc20, kc21, kc22, kc23, kc24, kc25, kc26, kc27, kc28, kc29, kc30, kc31, kc32, kc33] at q203) <;> (omega)
        iterate 2 (refine hX _ ?_; conv => whnf)
        refine hX _ ?_; conv => whnf
        refine ⟨fun q126 => ?_, fun q126 => ?_⟩
        · exfalso
          (try simp (disch := omega) only [bg_w_id, Int.toNat_natCast, rw_land, sh_land, not_true_eq_false, kc0, kc1, kc2, kc3, kc4, kc5, kc6, kc7, kc8, kc9, kc10, kc11, kc12, kc13, kc14, kc15, kc16, kc17, kc18, kc19, kc20, kc21, kc22, kc23, kc24, kc25, kc26, kc27, kc28, kc29, kc30, kc31, kc32, kc33] at q126) <;> (omega)
        · try simp (disch := omega) only [bg_w_id, Int.toNat_natCast, rw_land, sh_land, not_true_eq_false, kc0, kc1, kc2, kc3, kc4, kc5, kc6, kc7, kc8, kc9, kc10, kc11, kc12, kc13, kc14, kc15, kc16, kc17, kc18, kc19, kc20, kc21, kc22, kc23, kc24, kc25, kc26, kc27, kc28, kc29, kc30, kc31, kc32, kc33] at q126
          iterate 6 (refine hX _ ?_; conv => whnf)
          refine hX _ ?_; conv => whnf
          refine ⟨fun q138 => ?_, fun q138 => ?_⟩
          · exfalso
            (try simp (disch := omega) only [bg_w_id, Int.toNat_natCast, rw_land, sh_land, not_true_eq_false, kc0, kc1, kc2, kc3, kc4, kc5, kc6, kc7, kc8, kc9, kc10, kc11, kc12, kc13, kc14, kc15, kc16, kc17, kc18, kc19, kc20, kc21, kc22, kc23, kc24, kc25, kc26, kc27, kc28, kc29, kc30, kc31, kc32, kc33] at q138) <;> (omega)
          · try simp (disch := omega) only [bg_w_id, Int.toNat_natCast, rw_land, sh_land, not_true_eq_false, kc0, kc1, kc2, kc3, kc4, kc5, kc6, kc7, kc8, kc9, kc10, kc11, kc12, kc13, kc14, kc15, kc16, kc17, kc18, kc19, kc20, kc21, kc22, kc23, kc24, kc25, kc26, kc27, kc28, kc29, kc30, kc31, kc32, kc33] at q138
            iterate 2 (refine hX _ ?_; conv => whnf)
            refine hX _ ?_; conv => whnf
            try simp (disch := omega) only [bg_w_id, Int.toNat_natCast, rw_land, sh_land, not_true_eq_false]
            refine s_has (d + 3) _ _ _ _ ?_
            rw [eb]
            conv => whnf
            refine hX _ ?_; conv => whnf
            refine ⟨fun q147 => ?_, fun q147 => ?_⟩
            · try simp (disch := omega) only [bg_w_id, Int.toNat_natCast, rw_land, sh_land, not_true_eq_false, kc0, kc1, kc2, kc3, kc4, kc5, kc6, kc7, kc8, kc9, kc10, kc11, kc12, kc13, kc14, kc15, kc16, kc17, kc18, kc19, kc20, kc21, kc22, kc23, kc24, kc25, kc26, kc27, kc28, kc29, kc30, kc31, kc32, kc33] at q147
              exact x193 _ _
            · exfalso
              (try simp (disch := omega) only [bg_w_id, Int.toNat_natCast, rw_land, sh_land, not_true_eq_false, kc0, kc1, kc2, kc3, kc4, kc5, kc6, kc7, kc8, kc9, kc10, kc11, kc12, kc13, kc14, kc15, kc16, kc17, kc18, kc19, kc20, kc21, kc22, kc23, kc24, kc25, kc26, kc27, kc28, kc29, kc30, kc31, kc32, kc33] at q147) <;> (omega)
  -- the carriers
  have l1 : ∀ i, i ≤ 4 → ∀ (al : Int) (j5 j7 : Option bg_V), ((al = 1 ∧ ∀ c, c < i → (tcM h).testBit c = true → ¬ vlF B a b < mOf B a b c) ∨ (al = 0 ∧ ¬ ∀ c, c < i → (tcM h).testBit c = true → ¬ vlF B a b < mOf B a b c)) → X (17, [oR 115, oI (tgM h : Nat), oI (tcM h : Nat), oI al, oI (i : Int), j5, none, j7], [], (bg_SH n, h), (0, 0)) := by
    refine lp_up 4 _ ?_ (fun i hi ih => ?_)
    · intro al j5 j7 f
      have := l3 0 (by omega) al j5 j7 (by
        rcases f with ⟨x, y⟩ | ⟨x, y⟩
        · exact Or.inl ⟨x, y, fun g hg => absurd hg (by omega)⟩
        · exact Or.inr ⟨x, fun z => y z.1⟩)
      iterate 2 (refine hX _ ?_; conv => whnf)
      refine hX _ ?_; conv => whnf
      refine ⟨fun q20 => ?_, fun q20 => ?_⟩
      · try simp (disch := omega) only [bg_w_id, Int.toNat_natCast, rw_land, sh_land, not_true_eq_false, kc0, kc1, kc2, kc3, kc4, kc5, kc6, kc7, kc8, kc9, kc10, kc11, kc12, kc13, kc14, kc15, kc16, kc17, kc18, kc19, kc20, kc21, kc22, kc23, kc24, kc25, kc26, kc27, kc28, kc29, kc30, kc31, kc32, kc33] at q20
        iterate 2 (refine hX _ ?_; conv => whnf)
        exact this
      · exfalso
        (try simp (disch := omega) only [bg_w_id, Int.toNat_natCast, rw_land, sh_land, not_true_eq_false, kc0, kc1, kc2, kc3, kc4, kc5, kc6, kc7, kc8, kc9, kc10, kc11, kc12, kc13, kc14, kc15, kc16, kc17, kc18, kc19, kc20, kc21, kc22, kc23, kc24, kc25, kc26, kc27, kc28, kc29, kc30, kc31, kc32, kc33] at q20) <;> (omega)
    · intro al j5 j7 f
      have eb := bt_set c16 hi
      have rm := mOf_rg hG a b i
      have al01 : al = 0 ∨ al = 1 := by rcases f with ⟨x, _⟩ | ⟨x, _⟩ <;> omega
      have nx : ∀ (al2 : Int) (j5 j7 : Option bg_V), ((al2 = 1 ∧ (al = 1 ∧ ((tcM h).testBit i = true → ¬ vlF B a b < mOf B a b i))) ∨ (al2 = 0 ∧ ¬ (al = 1 ∧ ((tcM h).testBit i = true → ¬ vlF B a b < mOf B a b i)))) → X (17, [oR 115, oI (tgM h : Nat), oI (tcM h : Nat), oI al2, oI ((i : Int) + 1), j5, none, j7], [], (bg_SH n, h), (0, 0)) := by
        intro al2 j5 j7 ha2
        refine ih al2 j5 j7 ?_
        have key : (∀ c, c < i + 1 → (tcM h).testBit c = true → ¬ vlF B a b < mOf B a b c) ↔ ((∀ c, c < i → (tcM h).testBit c = true → ¬ vlF B a b < mOf B a b c) ∧ ((tcM h).testBit i = true → ¬ vlF B a b < mOf B a b i)) := by
          constructor
          · intro q
            exact ⟨fun g hg => q g (by omega), q i (by omega)⟩
          · intro ⟨q, r⟩ g hg
            by_cases e : g = i
            · subst e; exact r
            · exact q g (by omega)
        rw [key]
        rcases f with ⟨x, y⟩ | ⟨x, y⟩
        · rcases ha2 with ⟨u, v⟩ | ⟨u, v⟩
          · exact Or.inl ⟨u, y, v.2⟩
          · exact Or.inr ⟨u, fun z => v ⟨x, z.2⟩⟩
        · rcases ha2 with ⟨u, v⟩ | ⟨u, v⟩
          · omega
          · exact Or.inr ⟨u, fun z => y z.1⟩
      by_cases c1 : (tcM h).testBit i = true
      · rw [if_pos c1] at eb
        have hi0 := (tc i hi).1 c1
        have x85 : ∀ j7 : Option bg_V, X (85, [oR 115, oI (tgM h : Nat), oI (tcM h : Nat), oI al, oI (i : Int), oL (mOf B a b i), none, j7], [], (bg_SH n, h), (0, 0)) := by
          intro j7
          refine hX _ ?_; conv => whnf
          refine hX _ ?_; conv => whnf
          refine ⟨fun q86 => ?_, fun q86 => ?_⟩
          · try simp (disch := omega) only [bg_w_id, Int.toNat_natCast, rw_land, sh_land, not_true_eq_false, e28, kc0, kc1, kc2, kc3, kc4, kc5, kc6, kc7, kc8, kc9, kc10, kc11, kc12, kc13, kc14, kc15, kc16, kc17, kc18, kc19, kc20, kc21, kc22, kc23, kc24, kc25, kc26, kc27, kc28, kc29, kc30, kc31, kc32, kc33] at q86
            iterate 4 (refine hX _ ?_; conv => whnf)
            first
            | exact nx 1 _ _ (Or.inl ⟨rfl, by omega, fun _ => q105⟩)
            | exact nx 0 _ _ (Or.inr ⟨rfl, fun x => x.2 c1 q105⟩)
            | exact nx 0 _ _ (Or.inr ⟨rfl, fun x => absurd x.1 (by omega)⟩)
          · try simp (disch := omega) only [bg_w_id, Int.toNat_natCast, rw_land, sh_land, not_true_eq_false, e28, kc0, kc1, kc2, kc3, kc4, kc5, kc6, kc7, kc8, kc9, kc10, kc11, kc12, kc13, kc14, kc15, kc16, kc17, kc18, kc19, kc20, kc21, kc22, kc23, kc24, kc25, kc26, kc27, kc28, kc29, kc30, kc31, kc32, kc33] at q86
            iterate 2 (refine hX _ ?_; conv => whnf)
            refine hX _ ?_; conv => whnf
            try simp (disch := omega) only [bg_w_id, Int.toNat_natCast, rw_land, sh_land, not_true_eq_false, e28]
            refine s_has (d + 3) _ _ _ _ ?_
            rw [eb]
            conv => whnf
            refine hX _ ?_; conv => whnf
            refine ⟨fun q95 => ?_, fun q95 => ?_⟩
            · exfalso
              (try simp (disch := omega) only [bg_w_id, Int.toNat_natCast, rw_land, sh_land, not_true_eq_false, e28, kc0, kc1, kc2, kc3, kc4, kc5, kc6, kc7, kc8, kc9, kc10, kc11, kc12, kc13, kc14, kc15, kc16, kc17, kc18, kc19, kc20, kc21, kc22, kc23, kc24, kc25, kc26, kc27, kc28, kc29, kc30, kc31, kc32, kc33] at q95) <;> (omega)
            · try simp (disch := omega) only [bg_w_id, Int.toNat_natCast, rw_land, sh_land, not_true_eq_false, e28, kc0, kc1, kc2, kc3, kc4, kc5, kc6, kc7, kc8, kc9, kc10, kc11, kc12, kc13, kc14, kc15, kc16, kc17, kc18, kc19, kc20, kc21, kc22, kc23, kc24, kc25, kc26, kc27, kc28, kc29, kc30, kc31, kc32, kc33] at q95
              iterate 4 (refine hX _ ?_; conv => whnf)
              try simp only [kc0, kc1, kc2, kc3, kc4, kc5, kc6, kc7, kc8, kc9, kc10, kc11, kc12, kc13, kc14, kc15, kc16, kc17, kc18, kc19, kc20, kc21, kc22, kc23, kc24, kc25, kc26, kc27, kc28, kc29, kc30, kc31, kc32, kc33]
              refine hX _ ?_; conv => whnf
              refine ⟨fun q105 => ?_, fun q105 => ?_⟩
              · try simp (disch := omega) only [bg_w_id, Int.toNat_natCast, rw_land, sh_land, not_true_eq_false, e28, kc0, kc1, kc2, kc3, kc4, kc5, kc6, kc7, kc8, kc9, kc10, kc11, kc12, kc13, kc14, kc15, kc16, kc17, kc18, kc19, kc20, kc21, kc22, kc23, kc24, kc25, kc26, kc27, kc28, kc29, kc30, kc31, kc32, kc33] at q105
                rw [bg_Cmp_gt, bg_W_id (by omega) (by omega), bg_W_id (by omega) (by omega)] at q105
                iterate 4 (refine hX _ ?_; conv => whnf)
                first
                | exact nx 1 _ _ (Or.inl ⟨rfl, by omega, fun _ => q105⟩)
                | exact nx 0 _ _ (Or.inr ⟨rfl, fun x => x.2 c1 q105⟩)
                | exact nx 0 _ _ (Or.inr ⟨rfl, fun x => absurd x.1 (by omega)⟩)
              · try simp (disch := omega) only [bg_w_id, Int.toNat_natCast, rw_land, sh_land, not_true_eq_false, e28, kc0, kc1, kc2, kc3, kc4, kc5, kc6, kc7, kc8, kc9, kc10, kc11, kc12, kc13, kc14, kc15, kc16, kc17, kc18, kc19, kc20, kc21, kc22, kc23, kc24, kc25, kc26, kc27, kc28, kc29, kc30, kc31, kc32, kc33] at q105
                rw [bg_Cmp_gt, bg_W_id (by omega) (by omega), bg_W_id (by omega) (by omega)] at q105
                iterate 5 (refine hX _ ?_; conv => whnf)
                first
                | exact nx 1 _ _ (Or.inl ⟨rfl, by omega, fun _ => q105⟩)
                | exact nx 0 _ _ (Or.inr ⟨rfl, fun x => x.2 c1 q105⟩)
                | exact nx 0 _ _ (Or.inr ⟨rfl, fun x => absurd x.1 (by omega)⟩)
        have l2 : ∀ g, g ≤ 4 → X (29, [oR 115, oI (tgM h : Nat), oI (tcM h : Nat), oI al, oI (i : Int), oL (sm g (fun g => sgW B a b * GP B a b g * B g i)), none, oI (g : Int)], [], (bg_SH n, h), (0, 0)) := by
          refine lp_up 4 _ ?_ (fun g hg ih2 => ?_)
          · iterate 2 (refine hX _ ?_; conv => whnf)
            refine hX _ ?_; conv => whnf
            refine ⟨fun q32 => ?_, fun q32 => ?_⟩
            · try simp (disch := omega) only [bg_w_id, Int.toNat_natCast, rw_land, sh_land, not_true_eq_false, kc0, kc1, kc2, kc3, kc4, kc5, kc6, kc7, kc8, kc9, kc10, kc11, kc12, kc13, kc14, kc15, kc16, kc17, kc18, kc19, kc20, kc21, kc22, kc23, kc24, kc25, kc26, kc27, kc28, kc29, kc30, kc31, kc32, kc33] at q32
              exact x85 _
            · exfalso
              (try simp (disch := omega) only [bg_w_id, Int.toNat_natCast, rw_land, sh_land, not_true_eq_false, kc0, kc1, kc2, kc3, kc4, kc5, kc6, kc7, kc8, kc9, kc10, kc11, kc12, kc13, kc14, kc15, kc16, kc17, kc18, kc19, kc20, kc21, kc22, kc23, kc24, kc25, kc26, kc27, kc28, kc29, kc30, kc31, kc32, kc33] at q32) <;> (omega)
          · have ebg := bt_set g16 hg
            have ea := (hs.2.2 g hg).1
            rw [sm_s] at ih2
            by_cases c2 : (tgM h).testBit g = true
            · rw [if_pos c2] at ebg
              have hg0 := (tg g hg).1 c2
              have eg := hB g i hg hi hg0 hi0
              have rb := hG g i
              iterate 2 (refine hX _ ?_; conv => whnf)
              refine hX _ ?_; conv => whnf
              refine ⟨fun q32 => ?_, fun q32 => ?_⟩
              · exfalso
                (try simp (disch := omega) only [bg_w_id, Int.toNat_natCast, rw_land, sh_land, not_true_eq_false, ea, kc0, kc1, kc2, kc3, kc4, kc5, kc6, kc7, kc8, kc9, kc10, kc11, kc12, kc13, kc14, kc15, kc16, kc17, kc18, kc19, kc20, kc21, kc22, kc23, kc24, kc25, kc26, kc27, kc28, kc29, kc30, kc31, kc32, kc33] at q32) <;> (omega)
              · try simp (disch := omega) only [bg_w_id, Int.toNat_natCast, rw_land, sh_land, not_true_eq_false, ea, kc0, kc1, kc2, kc3, kc4, kc5, kc6, kc7, kc8, kc9, kc10, kc11, kc12, kc13, kc14, kc15, kc16, kc17, kc18, kc19, kc20, kc21, kc22, kc23, kc24, kc25, kc26, kc27, kc28, kc29, kc30, kc31, kc32, kc33] at q32
                iterate 2 (refine hX _ ?_; conv => whnf)
                refine hX _ ?_; conv => whnf
                try simp (disch := omega) only [bg_w_id, Int.toNat_natCast, rw_land, sh_land, not_true_eq_false, ea]
                refine s_has (d + 3) _ _ _ _ ?_
                rw [eb]
                conv => whnf
                refine hX _ ?_; conv => whnf
                refine ⟨fun q41 => ?_, fun q41 => ?_⟩
                · exfalso
                  (try simp (disch := omega) only [bg_w_id, Int.toNat_natCast, rw_land, sh_land, not_true_eq_false, ea, kc0, kc1, kc2, kc3, kc4, kc5, kc6, kc7, kc8, kc9, kc10, kc11, kc12, kc13, kc14, kc15, kc16, kc17, kc18, kc19, kc20, kc21, kc22, kc23, kc24, kc25, kc26, kc27, kc28, kc29, kc30, kc31, kc32, kc33] at q41) <;> (omega)
                · try simp (disch := omega) only [bg_w_id, Int.toNat_natCast, rw_land, sh_land, not_true_eq_false, ea, kc0, kc1, kc2, kc3, kc4, kc5, kc6, kc7, kc8, kc9, kc10, kc11, kc12, kc13, kc14, kc15, kc16, kc17, kc18, kc19, kc20, kc21, kc22, kc23, kc24, kc25, kc26, kc27, kc28, kc29, kc30, kc31, kc32, kc33] at q41
                  iterate 3 (refine hX _ ?_; conv => whnf)
                  refine hX _ ?_; conv => whnf
                  try simp (disch := omega) only [bg_w_id, Int.toNat_natCast, rw_land, sh_land, not_true_eq_false, ea]
                  refine s_has (d + 3) _ _ _ _ ?_
                  rw [ebg]
                  conv => whnf
                  refine hX _ ?_; conv => whnf
                  refine ⟨fun q52 => ?_, fun q52 => ?_⟩
                  · exfalso
                    (try simp (disch := omega) only [bg_w_id, Int.toNat_natCast, rw_land, sh_land, not_true_eq_false, ea, kc0, kc1, kc2, kc3, kc4, kc5, kc6, kc7, kc8, kc9, kc10, kc11, kc12, kc13, kc14, kc15, kc16, kc17, kc18, kc19, kc20, kc21, kc22, kc23, kc24, kc25, kc26, kc27, kc28, kc29, kc30, kc31, kc32, kc33] at q52) <;> (omega)
                  · try simp (disch := omega) only [bg_w_id, Int.toNat_natCast, rw_land, sh_land, not_true_eq_false, ea, kc0, kc1, kc2, kc3, kc4, kc5, kc6, kc7, kc8, kc9, kc10, kc11, kc12, kc13, kc14, kc15, kc16, kc17, kc18, kc19, kc20, kc21, kc22, kc23, kc24, kc25, kc26, kc27, kc28, kc29, kc30, kc31, kc32, kc33] at q52
                    iterate 3 (refine hX _ ?_; conv => whnf)
                    refine hX _ ?_; conv => whnf
                    try (simp (disch := omega) only [bg_w_id, Int.toNat_natCast, rw_land, sh_land, not_true_eq_false, ea]; try conv => whnf)
                    refine ⟨by first | omega | (simp (disch := omega) only [bg_w_id, Int.toNat_natCast, rw_land, sh_land, not_true_eq_false, ea]; omega), ?_⟩
                    iterate 3 (refine hX _ ?_; conv => whnf)
                    refine hX _ ?_; conv => whnf
                    try simp (disch := omega) only [bg_w_id, Int.toNat_natCast, rw_land, sh_land, not_true_eq_false, ea]
                    refine s_mgm d n g i hg hi h hl hi0 _ ?_
                    rw [eg]
                    conv => whnf
                    iterate 7 (refine hX _ ?_; conv => whnf)
                    try simp (disch := omega) only [bg_w_id, Int.toNat_natCast, rw_land, sh_land, not_true_eq_false, ea]
                    try rw [ea]
                    try rw [bg_w_id (by omega) (by omega)]
                    exact ih2
            · rw [if_neg c2] at ebg
              have z : GP B a b g = 0 := GP_out (fun x => c2 ((tg g hg).2 (hta g hg x)))
              rw [z, Int.mul_zero, Int.zero_mul] at ih2
              iterate 2 (refine hX _ ?_; conv => whnf)
              refine hX _ ?_; conv => whnf
              refine ⟨fun q32 => ?_, fun q32 => ?_⟩
              · exfalso
                (try simp (disch := omega) only [bg_w_id, Int.toNat_natCast, rw_land, sh_land, not_true_eq_false, kc0, kc1, kc2, kc3, kc4, kc5, kc6, kc7, kc8, kc9, kc10, kc11, kc12, kc13, kc14, kc15, kc16, kc17, kc18, kc19, kc20, kc21, kc22, kc23, kc24, kc25, kc26, kc27, kc28, kc29, kc30, kc31, kc32, kc33] at q32) <;> (omega)
              · try simp (disch := omega) only [bg_w_id, Int.toNat_natCast, rw_land, sh_land, not_true_eq_false, kc0, kc1, kc2, kc3, kc4, kc5, kc6, kc7, kc8, kc9, kc10, kc11, kc12, kc13, kc14, kc15, kc16, kc17, kc18, kc19, kc20, kc21, kc22, kc23, kc24, kc25, kc26, kc27, kc28, kc29, kc30, kc31, kc32, kc33] at q32
                iterate 2 (refine hX _ ?_; conv => whnf)
                refine hX _ ?_; conv => whnf
                try simp (disch := omega) only [bg_w_id, Int.toNat_natCast, rw_land, sh_land, not_true_eq_false]
                refine s_has (d + 3) _ _ _ _ ?_
                rw [eb]
                conv => whnf
                refine hX _ ?_; conv => whnf
                refine ⟨fun q41 => ?_, fun q41 => ?_⟩
                · exfalso
                  (try simp (disch := omega) only [bg_w_id, Int.toNat_natCast, rw_land, sh_land, not_true_eq_false, kc0, kc1, kc2, kc3, kc4, kc5, kc6, kc7, kc8, kc9, kc10, kc11, kc12, kc13, kc14, kc15, kc16, kc17, kc18, kc19, kc20, kc21, kc22, kc23, kc24, kc25, kc26, kc27, kc28, kc29, kc30, kc31, kc32, kc33] at q41) <;> (omega)
                · try simp (disch := omega) only [bg_w_id, Int.toNat_natCast, rw_land, sh_land, not_true_eq_false, kc0, kc1, kc2, kc3, kc4, kc5, kc6, kc7, kc8, kc9, kc10, kc11, kc12, kc13, kc14, kc15, kc16, kc17, kc18, kc19, kc20, kc21, kc22, kc23, kc24, kc25, kc26, kc27, kc28, kc29, kc30, kc31, kc32, kc33] at q41
                  iterate 3 (refine hX _ ?_; conv => whnf)
                  refine hX _ ?_; conv => whnf
                  try simp (disch := omega) only [bg_w_id, Int.toNat_natCast, rw_land, sh_land, not_true_eq_false]
                  refine s_has (d + 3) _ _ _ _ ?_
                  rw [ebg]
                  conv => whnf
                  refine hX _ ?_; conv => whnf
                  refine ⟨fun q52 => ?_, fun q52 => ?_⟩
                  · try simp (disch := omega) only [bg_w_id, Int.toNat_natCast, rw_land, sh_land, not_true_eq_false, kc0, kc1, kc2, kc3, kc4, kc5, kc6, kc7, kc8, kc9, kc10, kc11, kc12, kc13, kc14, kc15, kc16, kc17, kc18, kc19, kc20, kc21, kc22, kc23, kc24, kc25, kc26, kc27, kc28, kc29, kc30, kc31, kc32, kc33] at q52
                    iterate 5 (refine hX _ ?_; conv => whnf)
                    exact ih2
                  · exfalso
                    (try simp (disch := omega) only [bg_w_id, Int.toNat_natCast, rw_land, sh_land, not_true_eq_false, kc0, kc1, kc2, kc3, kc4, kc5, kc6, kc7, kc8, kc9, kc10, kc11, kc12, kc13, kc14, kc15, kc16, kc17, kc18, kc19, kc20, kc21, kc22, kc23, kc24, kc25, kc26, kc27, kc28, kc29, kc30, kc31, kc32, kc33] at q52) <;> (omega)
        iterate 2 (refine hX _ ?_; conv => whnf)
        refine hX _ ?_; conv => whnf
        refine ⟨fun q20 => ?_, fun q20 => ?_⟩
        · exfalso
          (try simp (disch := omega) only [bg_w_id, Int.toNat_natCast, rw_land, sh_land, not_true_eq_false, kc0, kc1, kc2, kc3, kc4, kc5, kc6, kc7, kc8, kc9, kc10, kc11, kc12, kc13, kc14, kc15, kc16, kc17, kc18, kc19, kc20, kc21, kc22, kc23, kc24, kc25, kc26, kc27, kc28, kc29, kc30, kc31, kc32, kc33] at q20) <;> (omega)
        · try simp (disch := omega) only [bg_w_id, Int.toNat_natCast, rw_land, sh_land, not_true_eq_false, kc0, kc1, kc2, kc3, kc4, kc5, kc6, kc7, kc8, kc9, kc10, kc11, kc12, kc13, kc14, kc15, kc16, kc17, kc18, kc19, kc20, kc21, kc22, kc23, kc24, kc25, kc26, kc27, kc28, kc29, kc30, kc31, kc32, kc33] at q20
          iterate 4 (refine hX _ ?_; conv => whnf)
          exact l2 0 (by omega)
      · rw [if_neg c1] at eb
        have x85 : ∀ (v : Int) (j7 : Option bg_V), X (85, [oR 115, oI (tgM h : Nat), oI (tcM h : Nat), oI al, oI (i : Int), oL v, none, j7], [], (bg_SH n, h), (0, 0)) := by
          intro v j7
          refine hX _ ?_; conv => whnf
          refine hX _ ?_; conv => whnf
          refine ⟨fun q86 => ?_, fun q86 => ?_⟩
          · try simp (disch := omega) only [bg_w_id, Int.toNat_natCast, rw_land, sh_land, not_true_eq_false, e28, kc0, kc1, kc2, kc3, kc4, kc5, kc6, kc7, kc8, kc9, kc10, kc11, kc12, kc13, kc14, kc15, kc16, kc17, kc18, kc19, kc20, kc21, kc22, kc23, kc24, kc25, kc26, kc27, kc28, kc29, kc30, kc31, kc32, kc33] at q86
            iterate 4 (refine hX _ ?_; conv => whnf)
            first
            | exact nx 1 _ _ (Or.inl ⟨rfl, by omega, fun x => absurd x c1⟩)
            | exact nx 0 _ _ (Or.inr ⟨rfl, fun x => absurd x.1 (by omega)⟩)
          · try simp (disch := omega) only [bg_w_id, Int.toNat_natCast, rw_land, sh_land, not_true_eq_false, e28, kc0, kc1, kc2, kc3, kc4, kc5, kc6, kc7, kc8, kc9, kc10, kc11, kc12, kc13, kc14, kc15, kc16, kc17, kc18, kc19, kc20, kc21, kc22, kc23, kc24, kc25, kc26, kc27, kc28, kc29, kc30, kc31, kc32, kc33] at q86
            iterate 2 (refine hX _ ?_; conv => whnf)
            refine hX _ ?_; conv => whnf
            try simp (disch := omega) only [bg_w_id, Int.toNat_natCast, rw_land, sh_land, not_true_eq_false, e28]
            refine s_has (d + 3) _ _ _ _ ?_
            rw [eb]
            conv => whnf
            refine hX _ ?_; conv => whnf
            refine ⟨fun q95 => ?_, fun q95 => ?_⟩
            · try simp (disch := omega) only [bg_w_id, Int.toNat_natCast, rw_land, sh_land, not_true_eq_false, e28, kc0, kc1, kc2, kc3, kc4, kc5, kc6, kc7, kc8, kc9, kc10, kc11, kc12, kc13, kc14, kc15, kc16, kc17, kc18, kc19, kc20, kc21, kc22, kc23, kc24, kc25, kc26, kc27, kc28, kc29, kc30, kc31, kc32, kc33] at q95
              iterate 5 (refine hX _ ?_; conv => whnf)
              first
              | exact nx 1 _ _ (Or.inl ⟨rfl, by omega, fun x => absurd x c1⟩)
              | exact nx 0 _ _ (Or.inr ⟨rfl, fun x => absurd x.1 (by omega)⟩)
            · exfalso
              (try simp (disch := omega) only [bg_w_id, Int.toNat_natCast, rw_land, sh_land, not_true_eq_false, e28, kc0, kc1, kc2, kc3, kc4, kc5, kc6, kc7, kc8, kc9, kc10, kc11, kc12, kc13, kc14, kc15, kc16, kc17, kc18, kc19, kc20, kc21, kc22, kc23, kc24, kc25, kc26, kc27, kc28, kc29, kc30, kc31, kc32, kc33] at q95) <;> (omega)
        iterate 2 (refine hX _ ?_; conv => whnf)
        refine hX _ ?_; conv => whnf
        refine ⟨fun q20 => ?_, fun q20 => ?_⟩
        · exfalso
          (try simp (disch := omega) only [bg_w_id, Int.toNat_natCast, rw_land, sh_land, not_true_eq_false, kc0, kc1, kc2, kc3, kc4, kc5, kc6, kc7, kc8, kc9, kc10, kc11, kc12, kc13, kc14, kc15, kc16, kc17, kc18, kc19, kc20, kc21, kc22, kc23, kc24, kc25, kc26, kc27, kc28, kc29, kc30, kc31, kc32, kc33] at q20) <;> (omega)
        · try simp (disch := omega) only [bg_w_id, Int.toNat_natCast, rw_land, sh_land, not_true_eq_false, kc0, kc1, kc2, kc3, kc4, kc5, kc6, kc7, kc8, kc9, kc10, kc11, kc12, kc13, kc14, kc15, kc16, kc17, kc18, kc19, kc20, kc21, kc22, kc23, kc24, kc25, kc26, kc27, kc28, kc29, kc30, kc31, kc32, kc33] at q20
          iterate 6 (refine hX _ ?_; conv => whnf)
          refine hX _ ?_; conv => whnf
          refine ⟨fun q32 => ?_, fun q32 => ?_⟩
          · exfalso
            (try simp (disch := omega) only [bg_w_id, Int.toNat_natCast, rw_land, sh_land, not_true_eq_false, kc0, kc1, kc2, kc3, kc4, kc5, kc6, kc7, kc8, kc9, kc10, kc11, kc12, kc13, kc14, kc15, kc16, kc17, kc18, kc19, kc20, kc21, kc22, kc23, kc24, kc25, kc26, kc27, kc28, kc29, kc30, kc31, kc32, kc33] at q32) <;> (omega)
          · try simp (disch := omega) only [bg_w_id, Int.toNat_natCast, rw_land, sh_land, not_true_eq_false, kc0, kc1, kc2, kc3, kc4, kc5, kc6, kc7, kc8, kc9, kc10, kc11, kc12, kc13, kc14, kc15, kc16, kc17, kc18, kc19, kc20, kc21, kc22, kc23, kc24, kc25, kc26, kc27, kc28, kc29, kc30, kc31, kc32, kc33] at q32
            iterate 2 (refine hX _ ?_; conv => whnf)
            refine hX _ ?_; conv => whnf
            try simp (disch := omega) only [bg_w_id, Int.toNat_natCast, rw_land, sh_land, not_true_eq_false]
            refine s_has (d + 3) _ _ _ _ ?_
            rw [eb]
            conv => whnf
            refine hX _ ?_; conv => whnf
            refine ⟨fun q41 => ?_, fun q41 => ?_⟩
            · try simp (disch := omega) only [bg_w_id, Int.toNat_natCast, rw_land, sh_land, not_true_eq_false, kc0, kc1, kc2, kc3, kc4, kc5, kc6, kc7, kc8, kc9, kc10, kc11, kc12, kc13, kc14, kc15, kc16, kc17, kc18, kc19, kc20, kc21, kc22, kc23, kc24, kc25, kc26, kc27, kc28, kc29, kc30, kc31, kc32, kc33] at q41
              exact x85 _ _
            · exfalso
              (try simp (disch := omega) only [bg_w_id, Int.toNat_natCast, rw_land, sh_land, not_true_eq_false, kc0, kc1, kc2, kc3, kc4, kc5, kc6, kc7, kc8, kc9, kc10, kc11, kc12, kc13, kc14, kc15, kc16, kc17, kc18, kc19, kc20, kc21, kc22, kc23, kc24, kc25, kc26, kc27, kc28, kc29, kc30, kc31, kc32, kc33] at q41) <;> (omega)
  iterate 2 (refine hX _ ?_; conv => whnf)
  refine hX _ ?_; conv => whnf
  try simp (disch := omega) only [bg_w_id, Int.toNat_natCast, rw_land, sh_land, not_true_eq_false]
  refine s_mtoldOnes (d + 3) n 0 (by omega) h rl _ ?_
  rw [toldM_0, show tSet (fun k => h 122 k) = tgM h from rfl]
  conv => whnf
  iterate 3 (refine hX _ ?_; conv => whnf)
  refine hX _ ?_; conv => whnf
  try simp (disch := omega) only [bg_w_id, Int.toNat_natCast, rw_land, sh_land, not_true_eq_false]
  refine s_mtoldOnes (d + 3) n 1 (by omega) h rl _ ?_
  rw [toldM_1, show tSet (fun k => h 123 k) = tcM h from rfl]
  conv => whnf
  iterate 5 (refine hX _ ?_; conv => whnf)
  exact l1 0 (by omega) 1 _ _ (Or.inl ⟨rfl, fun c hc => absurd hc (by omega)⟩)
