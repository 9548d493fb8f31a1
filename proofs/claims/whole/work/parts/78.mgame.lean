/-- the ways are laid, the lots as they may be -/
def LAID (h : bg_G) : Prop := okM h ∧ h 115 14 = 1 ∧ tbM h (wsM h) ∧ lotM h
/-- what solving may change -/
def frS (h h' : bg_G) : Prop := (∀ k, k ≠ 115 → k ≠ 135 → k ≠ 136 → k ≠ 137 → h' k = h k) ∧ ∀ j, j ≠ 28 → j ≠ 29 → h' 115 j = h 115 j
theorem frS_refl (h : bg_G) : frS h h := ⟨fun _ _ _ _ _ => rfl, fun _ _ _ => rfl⟩
theorem frS_trans {h h1 h2 : bg_G} (a : frS h h1) (b : frS h1 h2) : frS h h2 := ⟨fun k k1 k2 k3 k4 => by rw [b.1 k k1 k2 k3 k4, a.1 k k1 k2 k3 k4], fun j j1 j2 => by rw [b.2 j j1 j2, a.2 j j1 j2]⟩
theorem frS_e {h h' : bg_G} (f : frS h h') : ∀ k, 116 ≤ k → k ≤ 134 → h' k = h k := fun k a b => f.1 k (by omega) (by omega) (by omega) (by omega)
theorem LAID_fr {h h' : bg_G} (hl : LAID h) (f : frS h h') : LAID h' := by
  have e := frS_e f
  obtain ⟨a, b, c, d⟩ := hl
  have ew : wsM h' = wsM h := by unfold wsM; rw [e 117 (by omega) (by omega), e 118 (by omega) (by omega)]
  refine ⟨okM_fr a (e _ (by omega) (by omega)) (e _ (by omega) (by omega)) (e _ (by omega) (by omega)) (e _ (by omega) (by omega)) (e _ (by omega) (by omega)), by rw [f.2 14 (by omega) (by omega)]; exact b, ?_, ?_⟩
  · rw [ew]
    exact tbM_fr (f.2 15 (by omega) (by omega)) (e _ (by omega) (by omega)) (e _ (by omega) (by omega)) c
  · unfold lotM
    rw [ew, e 122 (by omega) (by omega), e 123 (by omega) (by omega), e 117 (by omega) (by omega), e 119 (by omega) (by omega)]
    exact d
theorem gm_fr {h h' : bg_G} (f : frS h h') (g c : Nat) : gmM h' g c = gmM h g c := by
  have e := frS_e f
  unfold gmM thrM
  have ew : wsM h' = wsM h := by unfold wsM; rw [e 117 (by omega) (by omega), e 118 (by omega) (by omega)]
  rw [ew, heldM_fr (e 120 (by omega) (by omega)), e 122 (by omega) (by omega), e 123 (by omega) (by omega), show (fun p => bearM h' (heldM h (h 122 g)) p 0) = fun p => bearM h (heldM h (h 122 g)) p 0 from funext (fun p => bearM_fr (e 118 (by omega) (by omega)))]
theorem s_mgm (d n g c : Nat) (hg : g < 4) (hc : c < 4) (h : bg_G) (hl : LAID h) (h0 : 0 ≤ h 123 c) (Rt : bg_R) (hR : Rt (some (.inl (gmM h g c))) (bg_SH n, h)) : bg_Ca bg_MS (d + 4) 167 [vR 115, vI g, vI c] (bg_SH n, h) Rt :=
  s_mgame d n g c hg hc h h hl.1 ⟨fun _ _ _ _ _ => rfl, fun _ _ _ => rfl, hl.2.1, hl.2.2.1⟩ ⟨h0, (hl.2.2.2 c hc).2.2⟩ Rt hR
theorem gm_rg {h : bg_G} (hl : LAID h) (g : Nat) {c : Nat} (hc : c < 4) (h0 : 0 ≤ h 123 c) : 0 ≤ gmM h g c ∧ gmM h g c ≤ 1000 := by
  unfold gmM
  exact thrM_rg hl.1 _ (by have := (hl.2.2.2 c hc).2; omega)
/-- members told of both sides -/
def MEM (h : bg_G) (a b : Nat) : Prop := (∀ i : Nat, i < pc 15 a → h 137 i = (mb a i : Nat)) ∧ ∀ j : Nat, j < pc 15 a → h 137 (4 + j) = (mb b j : Nat)
def GS (h : bg_G) (a b : Nat) (i j : Nat) : Int := gmM h (mb a i) (mb b j)
theorem s_mlayCells (d n sd a b : Nat) (hsd : sd ≤ 1) (ha : a < 16) (hb : b < 16) (hab : pc 15 b = pc 15 a) (h1 : 1 ≤ pc 15 a ∧ pc 15 a ≤ 4) (ins : Nat) (iv : Int) (hiv : (iv = ins ∧ ins ≤ pc 15 a) ∨ (iv = -4 ∧ ins = 5)) (h : bg_G) (hl : LAID h) (hm : MEM h a b) (hb0 : ∀ c : Nat, c < 4 → b.testBit c = true → 0 ≤ h 123 c) (Rt : bg_R) (hR : ∀ h' : bg_G, (∀ k, k ≠ 135 → h' k = h k) → (∀ r c : Nat, r < pc 15 a + 1 → c < pc 15 a + 1 → h' 135 ((5 * r + c : Nat) : Int) = clF sd (pc 15 a) ins (GS h a b) (5 * r + c)) → Rt none (bg_SH n, h')) : bg_Ca bg_MS (d + 5) 170 [vR 115, vI sd, vI (pc 15 a : Nat), vI iv] (bg_SH n, h) Rt := by
  have mA := mb_s a ha
  have mB := mb_s b hb
  obtain ⟨m1, m2⟩ := hm
  rw [hab] at mB
  generalize pc 15 a = k at *
  have cle : ∀ r c : Nat, c < 5 → clF sd k ins (GS h a b) (5 * r + c) = if c = ins then (if r = k then 1 else 0) else if r = k then (if c < k then 1 else 0) else if c = k then -1 else if sd = 0 then GS h a b c r else GS h a b r c := fun r c hc => by
    unfold clF
    rw [show (5 * r + c) % 5 = c by omega, show (5 * r + c) / 5 = r by omega]
  refine bg_ca (cd := cd_X9_layCells) rfl rfl ?_
  intro X hX
  have l1 : ∀ r, r ≤ k + 1 → ∀ (h' : bg_G) (j5 j6 : Option bg_V), (∀ k, k ≠ 135 → h' k = h k) → (∀ r' c : Nat, r' < r → c < k + 1 → h' 135 ((5 * r' + c : Nat) : Int) = clF sd k ins (GS h a b) (5 * r' + c)) → X (3, [oR 115, oI (sd : Int), oI (k : Int), oI iv, oI (r : Int), j5, j6, none], [], (bg_SH n, h'), (0, 0)) := by
    refine lp_up (k + 1) _ ?_ (fun r hr ih => ?_)
    · intro h' j5 j6 f1 f2
      iterate 2 (refine hX _ ?_; conv => whnf)
      refine hX _ ?_; conv => whnf
      refine ⟨fun q6 => ?_, fun q6 => ?_⟩
      · try simp (disch := omega) only [bg_w_id, Int.toNat_natCast, rw_land, sh_land, not_true_eq_false, kc0, kc1, kc2, kc3, kc4, kc5, kc6, kc7, kc8, kc9, kc10, kc11, kc12, kc13, kc14, kc15, kc16, kc17, kc18, kc19, kc20, kc21, kc22, kc23, kc24, kc25, kc26, kc27, kc28, kc29, kc30, kc31, kc32, kc33] at q6
        refine hX _ ?_; conv => whnf
        exact hR h' f1 f2
      · exfalso
        (try simp (disch := omega) only [bg_w_id, Int.toNat_natCast, rw_land, sh_land, not_true_eq_false, kc0, kc1, kc2, kc3, kc4, kc5, kc6, kc7, kc8, kc9, kc10, kc11, kc12, kc13, kc14, kc15, kc16, kc17, kc18, kc19, kc20, kc21, kc22, kc23, kc24, kc25, kc26, kc27, kc28, kc29, kc30, kc31, kc32, kc33] at q6) <;> (omega)
    · intro h' j5 j6 f1 f2
      have l2 : ∀ c, c ≤ k + 1 → ∀ (h2 : bg_G) (j6 : Option bg_V), (∀ k, k ≠ 135 → h2 k = h k) → (∀ r' c' : Nat, (r' < r ∧ c' < k + 1) ∨ (r' = r ∧ c' < c) → h2 135 ((5 * r' + c' : Nat) : Int) = clF sd k ins (GS h a b) (5 * r' + c')) → X (12, [oR 115, oI (sd : Int), oI (k : Int), oI iv, oI (r : Int), oI (c : Int), j6, none], [], (bg_SH n, h2), (0, 0)) := by
        refine lp_up (k + 1) _ ?_ (fun c hc ih2 => ?_)
        · intro h2 j6 g1 g2
          iterate 2 (refine hX _ ?_; conv => whnf)
          refine hX _ ?_; conv => whnf
          refine ⟨fun q15 => ?_, fun q15 => ?_⟩
          · try simp (disch := omega) only [bg_w_id, Int.toNat_natCast, rw_land, sh_land, not_true_eq_false, kc0, kc1, kc2, kc3, kc4, kc5, kc6, kc7, kc8, kc9, kc10, kc11, kc12, kc13, kc14, kc15, kc16, kc17, kc18, kc19, kc20, kc21, kc22, kc23, kc24, kc25, kc26, kc27, kc28, kc29, kc30, kc31, kc32, kc33] at q15
            iterate 2 (refine hX _ ?_; conv => whnf)
            exact ih h2 _ _ g1 (fun r' c' hr' hc' => g2 r' c' (by omega))
          · exfalso
            (try simp (disch := omega) only [bg_w_id, Int.toNat_natCast, rw_land, sh_land, not_true_eq_false, kc0, kc1, kc2, kc3, kc4, kc5, kc6, kc7, kc8, kc9, kc10, kc11, kc12, kc13, kc14, kc15, kc16, kc17, kc18, kc19, kc20, kc21, kc22, kc23, kc24, kc25, kc26, kc27, kc28, kc29, kc30, kc31, kc32, kc33] at q15) <;> (omega)
        · intro h2 j6 g1 g2
          have nx : ∀ (v : Int) (j6 : Option bg_V), v = clF sd k ins (GS h a b) (5 * r + c) → X (12, [oR 115, oI (sd : Int), oI (k : Int), oI iv, oI (r : Int), oI ((c : Int) + 1), j6, none], [], (bg_SH n, bg_up h2 135 (5 * (r : Int) + (c : Int)) v), (0, 0)) := by
            intro v j6 ev
            refine ih2 _ _ (fun k hk => by rw [bg_up_ne hk]; exact g1 k hk) (fun r' c' hx => ?_)
            by_cases e : r' = r ∧ c' = c
            · rw [e.1, e.2, show ((5 * r + c : Nat) : Int) = 5 * (r : Int) + (c : Int) by omega, bg_up_self]
              exact ev
            · rw [bg_up_nj (by omega)]
              exact g2 r' c' (by omega)
          -- behind the entry
          have x99 : ∀ (v : Int), (c ≠ ins → v = clF sd k ins (GS h a b) (5 * r + c)) → ∀ j6 : Option bg_V, X (99, [oR 115, oI (sd : Int), oI (k : Int), oI iv, oI (r : Int), oI (c : Int), j6, none], [.inr (.inl v)], (bg_SH n, h2), (0, 0)) := by
            intro v hv j6
            by_cases c1 : c = ins
            · by_cases c2 : r = k
              · iterate 10 (refine hX _ ?_; conv => whnf)
                refine hX _ ?_; conv => whnf
                refine ⟨fun q115 => ?_, fun q115 => ?_⟩
                · exfalso
                  (try simp (disch := omega) only [bg_w_id, Int.toNat_natCast, rw_land, sh_land, not_true_eq_false, kc0, kc1, kc2, kc3, kc4, kc5, kc6, kc7, kc8, kc9, kc10, kc11, kc12, kc13, kc14, kc15, kc16, kc17, kc18, kc19, kc20, kc21, kc22, kc23, kc24, kc25, kc26, kc27, kc28, kc29, kc30, kc31, kc32, kc33] at q115) <;> (omega)
                · try simp (disch := omega) only [bg_w_id, Int.toNat_natCast, rw_land, sh_land, not_true_eq_false, kc0, kc1, kc2, kc3, kc4, kc5, kc6, kc7, kc8, kc9, kc10, kc11, kc12, kc13, kc14, kc15, kc16, kc17, kc18, kc19, kc20, kc21, kc22, kc23, kc24, kc25, kc26, kc27, kc28, kc29, kc30, kc31, kc32, kc33] at q115
                  iterate 2 (refine hX _ ?_; conv => whnf)
                  refine hX _ ?_; conv => whnf
                  refine ⟨fun q121 => ?_, fun q121 => ?_⟩
                  · exfalso
                    (try simp (disch := omega) only [bg_w_id, Int.toNat_natCast, rw_land, sh_land, not_true_eq_false, kc0, kc1, kc2, kc3, kc4, kc5, kc6, kc7, kc8, kc9, kc10, kc11, kc12, kc13, kc14, kc15, kc16, kc17, kc18, kc19, kc20, kc21, kc22, kc23, kc24, kc25, kc26, kc27, kc28, kc29, kc30, kc31, kc32, kc33] at q121) <;> (omega)
                  · try simp (disch := omega) only [bg_w_id, Int.toNat_natCast, rw_land, sh_land, not_true_eq_false, kc0, kc1, kc2, kc3, kc4, kc5, kc6, kc7, kc8, kc9, kc10, kc11, kc12, kc13, kc14, kc15, kc16, kc17, kc18, kc19, kc20, kc21, kc22, kc23, kc24, kc25, kc26, kc27, kc28, kc29, kc30, kc31, kc32, kc33] at q121
                    iterate 2 (refine hX _ ?_; conv => whnf)
                    refine hX _ ?_; conv => whnf
                    try (simp (disch := omega) only [bg_w_id, Int.toNat_natCast, rw_land, sh_land, not_true_eq_false]; try conv => whnf)
                    refine ⟨by first | omega | (simp (disch := omega) only [bg_w_id, Int.toNat_natCast, rw_land, sh_land, not_true_eq_false]; omega), ?_⟩
                    iterate 2 (refine hX _ ?_; conv => whnf)
                    exact nx _ _ (by rw [cle r c (by omega), if_pos c1, if_pos c2])
              · iterate 10 (refine hX _ ?_; conv => whnf)
                refine hX _ ?_; conv => whnf
                refine ⟨fun q115 => ?_, fun q115 => ?_⟩
                · exfalso
                  (try simp (disch := omega) only [bg_w_id, Int.toNat_natCast, rw_land, sh_land, not_true_eq_false, kc0, kc1, kc2, kc3, kc4, kc5, kc6, kc7, kc8, kc9, kc10, kc11, kc12, kc13, kc14, kc15, kc16, kc17, kc18, kc19, kc20, kc21, kc22, kc23, kc24, kc25, kc26, kc27, kc28, kc29, kc30, kc31, kc32, kc33] at q115) <;> (omega)
                · try simp (disch := omega) only [bg_w_id, Int.toNat_natCast, rw_land, sh_land, not_true_eq_false, kc0, kc1, kc2, kc3, kc4, kc5, kc6, kc7, kc8, kc9, kc10, kc11, kc12, kc13, kc14, kc15, kc16, kc17, kc18, kc19, kc20, kc21, kc22, kc23, kc24, kc25, kc26, kc27, kc28, kc29, kc30, kc31, kc32, kc33] at q115
                  iterate 2 (refine hX _ ?_; conv => whnf)
                  refine hX _ ?_; conv => whnf
                  refine ⟨fun q121 => ?_, fun q121 => ?_⟩
                  · try simp (disch := omega) only [bg_w_id, Int.toNat_natCast, rw_land, sh_land, not_true_eq_false, kc0, kc1, kc2, kc3, kc4, kc5, kc6, kc7, kc8, kc9, kc10, kc11, kc12, kc13, kc14, kc15, kc16, kc17, kc18, kc19, kc20, kc21, kc22, kc23, kc24, kc25, kc26, kc27, kc28, kc29, kc30, kc31, kc32, kc33] at q121
                    iterate 2 (refine hX _ ?_; conv => whnf)
                    refine hX _ ?_; conv => whnf
                    try (simp (disch := omega) only [bg_w_id, Int.toNat_natCast, rw_land, sh_land, not_true_eq_false]; try conv => whnf)
                    refine ⟨by first | omega | (simp (disch := omega) only [bg_w_id, Int.toNat_natCast, rw_land, sh_land, not_true_eq_false]; omega), ?_⟩
                    iterate 2 (refine hX _ ?_; conv => whnf)
                    exact nx _ _ (by rw [cle r c (by omega), if_pos c1, if_neg c2])
                  · exfalso
                    (try simp (disch := omega) only [bg_w_id, Int.toNat_natCast, rw_land, sh_land, not_true_eq_false, kc0, kc1, kc2, kc3, kc4, kc5, kc6, kc7, kc8, kc9, kc10, kc11, kc12, kc13, kc14, kc15, kc16, kc17, kc18, kc19, kc20, kc21, kc22, kc23, kc24, kc25, kc26, kc27, kc28, kc29, kc30, kc31, kc32, kc33] at q121) <;> (omega)
            · iterate 10 (refine hX _ ?_; conv => whnf)
              refine hX _ ?_; conv => whnf
              refine ⟨fun q115 => ?_, fun q115 => ?_⟩
              · try simp (disch := omega) only [bg_w_id, Int.toNat_natCast, rw_land, sh_land, not_true_eq_false, kc0, kc1, kc2, kc3, kc4, kc5, kc6, kc7, kc8, kc9, kc10, kc11, kc12, kc13, kc14, kc15, kc16, kc17, kc18, kc19, kc20, kc21, kc22, kc23, kc24, kc25, kc26, kc27, kc28, kc29, kc30, kc31, kc32, kc33] at q115
                refine hX _ ?_; conv => whnf
                refine hX _ ?_; conv => whnf
                try (simp (disch := omega) only [bg_w_id, Int.toNat_natCast, rw_land, sh_land, not_true_eq_false]; try conv => whnf)
                refine ⟨by first | omega | (simp (disch := omega) only [bg_w_id, Int.toNat_natCast, rw_land, sh_land, not_true_eq_false]; omega), ?_⟩
                iterate 2 (refine hX _ ?_; conv => whnf)
                exact nx _ _ (hv c1)
              · exfalso
                (try simp (disch := omega) only [bg_w_id, Int.toNat_natCast, rw_land, sh_land, not_true_eq_false, kc0, kc1, kc2, kc3, kc4, kc5, kc6, kc7, kc8, kc9, kc10, kc11, kc12, kc13, kc14, kc15, kc16, kc17, kc18, kc19, kc20, kc21, kc22, kc23, kc24, kc25, kc26, kc27, kc28, kc29, kc30, kc31, kc32, kc33] at q115) <;> (omega)
          by_cases c1 : r = k
          · by_cases c2 : c < k
            · have := x99 1 (fun ci => by rw [cle r c (by omega), if_neg ci, if_pos c1, if_pos c2])
              iterate 2 (refine hX _ ?_; conv => whnf)
              refine hX _ ?_; conv => whnf
              refine ⟨fun q15 => ?_, fun q15 => ?_⟩
              · exfalso
                (try simp (disch := omega) only [bg_w_id, Int.toNat_natCast, rw_land, sh_land, not_true_eq_false, kc0, kc1, kc2, kc3, kc4, kc5, kc6, kc7, kc8, kc9, kc10, kc11, kc12, kc13, kc14, kc15, kc16, kc17, kc18, kc19, kc20, kc21, kc22, kc23, kc24, kc25, kc26, kc27, kc28, kc29, kc30, kc31, kc32, kc33] at q15) <;> (omega)
              · try simp (disch := omega) only [bg_w_id, Int.toNat_natCast, rw_land, sh_land, not_true_eq_false, kc0, kc1, kc2, kc3, kc4, kc5, kc6, kc7, kc8, kc9, kc10, kc11, kc12, kc13, kc14, kc15, kc16, kc17, kc18, kc19, kc20, kc21, kc22, kc23, kc24, kc25, kc26, kc27, kc28, kc29, kc30, kc31, kc32, kc33] at q15
                iterate 2 (refine hX _ ?_; conv => whnf)
                refine hX _ ?_; conv => whnf
                refine ⟨fun q21 => ?_, fun q21 => ?_⟩
                · exfalso
                  (try simp (disch := omega) only [bg_w_id, Int.toNat_natCast, rw_land, sh_land, not_true_eq_false, kc0, kc1, kc2, kc3, kc4, kc5, kc6, kc7, kc8, kc9, kc10, kc11, kc12, kc13, kc14, kc15, kc16, kc17, kc18, kc19, kc20, kc21, kc22, kc23, kc24, kc25, kc26, kc27, kc28, kc29, kc30, kc31, kc32, kc33] at q21) <;> (omega)
                · try simp (disch := omega) only [bg_w_id, Int.toNat_natCast, rw_land, sh_land, not_true_eq_false, kc0, kc1, kc2, kc3, kc4, kc5, kc6, kc7, kc8, kc9, kc10, kc11, kc12, kc13, kc14, kc15, kc16, kc17, kc18, kc19, kc20, kc21, kc22, kc23, kc24, kc25, kc26, kc27, kc28, kc29, kc30, kc31, kc32, kc33] at q21
                  iterate 2 (refine hX _ ?_; conv => whnf)
                  refine hX _ ?_; conv => whnf
                  refine ⟨fun q27 => ?_, fun q27 => ?_⟩
                  · exfalso
                    (try simp (disch := omega) only [bg_w_id, Int.toNat_natCast, rw_land, sh_land, not_true_eq_false, kc0, kc1, kc2, kc3, kc4, kc5, kc6, kc7, kc8, kc9, kc10, kc11, kc12, kc13, kc14, kc15, kc16, kc17, kc18, kc19, kc20, kc21, kc22, kc23, kc24, kc25, kc26, kc27, kc28, kc29, kc30, kc31, kc32, kc33] at q27) <;> (omega)
                  · try simp (disch := omega) only [bg_w_id, Int.toNat_natCast, rw_land, sh_land, not_true_eq_false, kc0, kc1, kc2, kc3, kc4, kc5, kc6, kc7, kc8, kc9, kc10, kc11, kc12, kc13, kc14, kc15, kc16, kc17, kc18, kc19, kc20, kc21, kc22, kc23, kc24, kc25, kc26, kc27, kc28, kc29, kc30, kc31, kc32, kc33] at q27
                    iterate 2 (refine hX _ ?_; conv => whnf)
                    exact this _
            · have := x99 0 (fun ci => by rw [cle r c (by omega), if_neg ci, if_pos c1, if_neg c2])
              iterate 2 (refine hX _ ?_; conv => whnf)
              refine hX _ ?_; conv => whnf
              refine ⟨fun q15 => ?_, fun q15 => ?_⟩
              · exfalso
                (try simp (disch := omega) only [bg_w_id, Int.toNat_natCast, rw_land, sh_land, not_true_eq_false, kc0, kc1, kc2, kc3, kc4, kc5, kc6, kc7, kc8, kc9, kc10, kc11, kc12, kc13, kc14, kc15, kc16, kc17, kc18, kc19, kc20, kc21, kc22, kc23, kc24, kc25, kc26, kc27, kc28, kc29, kc30, kc31, kc32, kc33] at q15) <;> (omega)
              · try simp (disch := omega) only [bg_w_id, Int.toNat_natCast, rw_land, sh_land, not_true_eq_false, kc0, kc1, kc2, kc3, kc4, kc5, kc6, kc7, kc8, kc9, kc10, kc11, kc12, kc13, kc14, kc15, kc16, kc17, kc18, kc19, kc20, kc21, kc22, kc23, kc24, kc25, kc26, kc27, kc28, kc29, kc30, kc31, kc32, kc33] at q15
                iterate 2 (refine hX _ ?_; conv => whnf)
                refine hX _ ?_; conv => whnf
                refine ⟨fun q21 => ?_, fun q21 => ?_⟩
                · exfalso
                  (try simp (disch := omega) only [bg_w_id, Int.toNat_natCast, rw_land, sh_land, not_true_eq_false, kc0, kc1, kc2, kc3, kc4, kc5, kc6, kc7, kc8, kc9, kc10, kc11, kc12, kc13, kc14, kc15, kc16, kc17, kc18, kc19, kc20, kc21, kc22, kc23, kc24, kc25, kc26, kc27, kc28, kc29, kc30, kc31, kc32, kc33] at q21) <;> (omega)
                · try simp (disch := omega) only [bg_w_id, Int.toNat_natCast, rw_land, sh_land, not_true_eq_false, kc0, kc1, kc2, kc3, kc4, kc5, kc6, kc7, kc8, kc9, kc10, kc11, kc12, kc13, kc14, kc15, kc16, kc17, kc18, kc19, kc20, kc21, kc22, kc23, kc24, kc25, kc26, kc27, kc28, kc29, kc30, kc31, kc32, kc33] at q21
                  iterate 2 (refine hX _ ?_; conv => whnf)
                  refine hX _ ?_; conv => whnf
                  refine ⟨fun q27 => ?_, fun q27 => ?_⟩
                  · try simp (disch := omega) only [bg_w_id, Int.toNat_natCast, rw_land, sh_land, not_true_eq_false, kc0, kc1, kc2, kc3, kc4, kc5, kc6, kc7, kc8, kc9, kc10, kc11, kc12, kc13, kc14, kc15, kc16, kc17, kc18, kc19, kc20, kc21, kc22, kc23, kc24, kc25, kc26, kc27, kc28, kc29, kc30, kc31, kc32, kc33] at q27
                    iterate 2 (refine hX _ ?_; conv => whnf)
                    exact this _
                  · exfalso
                    (try simp (disch := omega) only [bg_w_id, Int.toNat_natCast, rw_land, sh_land, not_true_eq_false, kc0, kc1, kc2, kc3, kc4, kc5, kc6, kc7, kc8, kc9, kc10, kc11, kc12, kc13, kc14, kc15, kc16, kc17, kc18, kc19, kc20, kc21, kc22, kc23, kc24, kc25, kc26, kc27, kc28, kc29, kc30, kc31, kc32, kc33] at q27) <;> (omega)
          · by_cases c2 : c = k
            · have := x99 (-1) (fun ci => by rw [cle r c (by omega), if_neg ci, if_neg c1, if_pos c2])
              iterate 2 (refine hX _ ?_; conv => whnf)
              refine hX _ ?_; conv => whnf
              refine ⟨fun q15 => ?_, fun q15 => ?_⟩
              · exfalso
                (try simp (disch := omega) only [bg_w_id, Int.toNat_natCast, rw_land, sh_land, not_true_eq_false, kc0, kc1, kc2, kc3, kc4, kc5, kc6, kc7, kc8, kc9, kc10, kc11, kc12, kc13, kc14, kc15, kc16, kc17, kc18, kc19, kc20, kc21, kc22, kc23, kc24, kc25, kc26, kc27, kc28, kc29, kc30, kc31, kc32, kc33] at q15) <;> (omega)
              · try simp (disch := omega) only [bg_w_id, Int.toNat_natCast, rw_land, sh_land, not_true_eq_false, kc0, kc1, kc2, kc3, kc4, kc5, kc6, kc7, kc8, kc9, kc10, kc11, kc12, kc13, kc14, kc15, kc16, kc17, kc18, kc19, kc20, kc21, kc22, kc23, kc24, kc25, kc26, kc27, kc28, kc29, kc30, kc31, kc32, kc33] at q15
                iterate 2 (refine hX _ ?_; conv => whnf)
                refine hX _ ?_; conv => whnf
                refine ⟨fun q21 => ?_, fun q21 => ?_⟩
                · try simp (disch := omega) only [bg_w_id, Int.toNat_natCast, rw_land, sh_land, not_true_eq_false, kc0, kc1, kc2, kc3, kc4, kc5, kc6, kc7, kc8, kc9, kc10, kc11, kc12, kc13, kc14, kc15, kc16, kc17, kc18, kc19, kc20, kc21, kc22, kc23, kc24, kc25, kc26, kc27, kc28, kc29, kc30, kc31, kc32, kc33] at q21
                  iterate 2 (refine hX _ ?_; conv => whnf)
                  refine hX _ ?_; conv => whnf
                  refine ⟨fun q41 => ?_, fun q41 => ?_⟩
                  · exfalso
                    (try simp (disch := omega) only [bg_w_id, Int.toNat_natCast, rw_land, sh_land, not_true_eq_false, kc0, kc1, kc2, kc3, kc4, kc5, kc6, kc7, kc8, kc9, kc10, kc11, kc12, kc13, kc14, kc15, kc16, kc17, kc18, kc19, kc20, kc21, kc22, kc23, kc24, kc25, kc26, kc27, kc28, kc29, kc30, kc31, kc32, kc33] at q41) <;> (omega)
                  · try simp (disch := omega) only [bg_w_id, Int.toNat_natCast, rw_land, sh_land, not_true_eq_false, kc0, kc1, kc2, kc3, kc4, kc5, kc6, kc7, kc8, kc9, kc10, kc11, kc12, kc13, kc14, kc15, kc16, kc17, kc18, kc19, kc20, kc21, kc22, kc23, kc24, kc25, kc26, kc27, kc28, kc29, kc30, kc31, kc32, kc33] at q41
                    iterate 2 (refine hX _ ?_; conv => whnf)
                    exact this _
                · exfalso
                  (try simp (disch := omega) only [bg_w_id, Int.toNat_natCast, rw_land, sh_land, not_true_eq_false, kc0, kc1, kc2, kc3, kc4, kc5, kc6, kc7, kc8, kc9, kc10, kc11, kc12, kc13, kc14, kc15, kc16, kc17, kc18, kc19, kc20, kc21, kc22, kc23, kc24, kc25, kc26, kc27, kc28, kc29, kc30, kc31, kc32, kc33] at q21) <;> (omega)
            · have fs : frS h h2 := ⟨fun k k1 k2 k3 k4 => g1 k k2, fun j _ _ => by rw [g1 115 (by omega)]⟩
              have hl2 := LAID_fr hl fs
              have e136 : h2 137 = h 137 := g1 137 (by omega)
              have e122 : h2 123 = h 123 := g1 123 (by omega)
              by_cases c3 : sd = 0
              · have ea := m1 c (by omega)
                have eb := m2 r (by omega)
                rw [← e136] at ea eb
                have xa := mA c (by omega)
                have xb := mB r (by omega)
                have h0 := hb0 _ xb.1 xb.2.1
                have rg := gm_rg hl (mb a c) xb.1 h0
                have := x99 (gmM h (mb a c) (mb b r)) (fun ci => by rw [cle r c (by omega), if_neg ci, if_neg c1, if_neg c2, if_pos c3]; rfl)
                iterate 2 (refine hX _ ?_; conv => whnf)
                refine hX _ ?_; conv => whnf
                refine ⟨fun q15 => ?_, fun q15 => ?_⟩
                · exfalso
                  (try simp (disch := omega) only [bg_w_id, Int.toNat_natCast, rw_land, sh_land, not_true_eq_false, ea, eb, kc0, kc1, kc2, kc3, kc4, kc5, kc6, kc7, kc8, kc9, kc10, kc11, kc12, kc13, kc14, kc15, kc16, kc17, kc18, kc19, kc20, kc21, kc22, kc23, kc24, kc25, kc26, kc27, kc28, kc29, kc30, kc31, kc32, kc33] at q15) <;> (omega)
                · try simp (disch := omega) only [bg_w_id, Int.toNat_natCast, rw_land, sh_land, not_true_eq_false, ea, eb, kc0, kc1, kc2, kc3, kc4, kc5, kc6, kc7, kc8, kc9, kc10, kc11, kc12, kc13, kc14, kc15, kc16, kc17, kc18, kc19, kc20, kc21, kc22, kc23, kc24, kc25, kc26, kc27, kc28, kc29, kc30, kc31, kc32, kc33] at q15
                  iterate 2 (refine hX _ ?_; conv => whnf)
                  refine hX _ ?_; conv => whnf
                  refine ⟨fun q21 => ?_, fun q21 => ?_⟩
                  · try simp (disch := omega) only [bg_w_id, Int.toNat_natCast, rw_land, sh_land, not_true_eq_false, ea, eb, kc0, kc1, kc2, kc3, kc4, kc5, kc6, kc7, kc8, kc9, kc10, kc11, kc12, kc13, kc14, kc15, kc16, kc17, kc18, kc19, kc20, kc21, kc22, kc23, kc24, kc25, kc26, kc27, kc28, kc29, kc30, kc31, kc32, kc33] at q21
                    iterate 2 (refine hX _ ?_; conv => whnf)
                    refine hX _ ?_; conv => whnf
                    refine ⟨fun q41 => ?_, fun q41 => ?_⟩
                    · try simp (disch := omega) only [bg_w_id, Int.toNat_natCast, rw_land, sh_land, not_true_eq_false, ea, eb, kc0, kc1, kc2, kc3, kc4, kc5, kc6, kc7, kc8, kc9, kc10, kc11, kc12, kc13, kc14, kc15, kc16, kc17, kc18, kc19, kc20, kc21, kc22, kc23, kc24, kc25, kc26, kc27, kc28, kc29, kc30, kc31, kc32, kc33] at q41
                      refine hX _ ?_; conv => whnf
                      refine hX _ ?_; conv => whnf
                      refine ⟨fun q51 => ?_, fun q51 => ?_⟩
                      · exfalso
                        (try simp (disch := omega) only [bg_w_id, Int.toNat_natCast, rw_land, sh_land, not_true_eq_false, ea, eb, kc0, kc1, kc2, kc3, kc4, kc5, kc6, kc7, kc8, kc9, kc10, kc11, kc12, kc13, kc14, kc15, kc16, kc17, kc18, kc19, kc20, kc21, kc22, kc23, kc24, kc25, kc26, kc27, kc28, kc29, kc30, kc31, kc32, kc33] at q51) <;> (omega)
                      · try simp (disch := omega) only [bg_w_id, Int.toNat_natCast, rw_land, sh_land, not_true_eq_false, ea, eb, kc0, kc1, kc2, kc3, kc4, kc5, kc6, kc7, kc8, kc9, kc10, kc11, kc12, kc13, kc14, kc15, kc16, kc17, kc18, kc19, kc20, kc21, kc22, kc23, kc24, kc25, kc26, kc27, kc28, kc29, kc30, kc31, kc32, kc33] at q51
                        iterate 4 (refine hX _ ?_; conv => whnf)
                        refine hX _ ?_; conv => whnf
                        try (simp (disch := omega) only [bg_w_id, Int.toNat_natCast, rw_land, sh_land, not_true_eq_false, ea, eb]; try conv => whnf)
                        refine ⟨by first | omega | (simp (disch := omega) only [bg_w_id, Int.toNat_natCast, rw_land, sh_land, not_true_eq_false, ea, eb]; omega), ?_⟩
                        iterate 5 (refine hX _ ?_; conv => whnf)
                        refine hX _ ?_; conv => whnf
                        try (simp (disch := omega) only [bg_w_id, Int.toNat_natCast, rw_land, sh_land, not_true_eq_false, ea, eb]; try conv => whnf)
                        refine ⟨by first | omega | (simp (disch := omega) only [bg_w_id, Int.toNat_natCast, rw_land, sh_land, not_true_eq_false, ea, eb]; omega), ?_⟩
                        refine hX _ ?_; conv => whnf
                        try simp (disch := omega) only [bg_w_id, Int.toNat_natCast, rw_land, sh_land, not_true_eq_false, ea, eb]
                        try rw [ea]
                        try rw [eb]
                        refine s_mgm d n (mb a c) (mb b r) xa.1 xb.1 h2 hl2 (by rw [e122]; exact h0) _ ?_
                        rw [gm_fr fs]
                        conv => whnf
                        iterate 2 (refine hX _ ?_; conv => whnf)
                        try simp (disch := omega) only [bg_w_id, Int.toNat_natCast, rw_land, sh_land, not_true_eq_false, ea, eb]
                        try rw [bg_w_id (by omega) (by omega)]
                        exact this _
                    · exfalso
                      (try simp (disch := omega) only [bg_w_id, Int.toNat_natCast, rw_land, sh_land, not_true_eq_false, ea, eb, kc0, kc1, kc2, kc3, kc4, kc5, kc6, kc7, kc8, kc9, kc10, kc11, kc12, kc13, kc14, kc15, kc16, kc17, kc18, kc19, kc20, kc21, kc22, kc23, kc24, kc25, kc26, kc27, kc28, kc29, kc30, kc31, kc32, kc33] at q41) <;> (omega)
                  · exfalso
                    (try simp (disch := omega) only [bg_w_id, Int.toNat_natCast, rw_land, sh_land, not_true_eq_false, ea, eb, kc0, kc1, kc2, kc3, kc4, kc5, kc6, kc7, kc8, kc9, kc10, kc11, kc12, kc13, kc14, kc15, kc16, kc17, kc18, kc19, kc20, kc21, kc22, kc23, kc24, kc25, kc26, kc27, kc28, kc29, kc30, kc31, kc32, kc33] at q21) <;> (omega)
              · have ea := m1 r (by omega)
                have eb := m2 c (by omega)
                rw [← e136] at ea eb
                have xa := mA r (by omega)
                have xb := mB c (by omega)
                have h0 := hb0 _ xb.1 xb.2.1
                have rg := gm_rg hl (mb a r) xb.1 h0
                have := x99 (gmM h (mb a r) (mb b c)) (fun ci => by rw [cle r c (by omega), if_neg ci, if_neg c1, if_neg c2, if_neg c3]; rfl)
                iterate 2 (refine hX _ ?_; conv => whnf)
                refine hX _ ?_; conv => whnf
                refine ⟨fun q15 => ?_, fun q15 => ?_⟩
                · exfalso
                  (try simp (disch := omega) only [bg_w_id, Int.toNat_natCast, rw_land, sh_land, not_true_eq_false, ea, eb, kc0, kc1, kc2, kc3, kc4, kc5, kc6, kc7, kc8, kc9, kc10, kc11, kc12, kc13, kc14, kc15, kc16, kc17, kc18, kc19, kc20, kc21, kc22, kc23, kc24, kc25, kc26, kc27, kc28, kc29, kc30, kc31, kc32, kc33] at q15) <;> (omega)
                · try simp (disch := omega) only [bg_w_id, Int.toNat_natCast, rw_land, sh_land, not_true_eq_false, ea, eb, kc0, kc1, kc2, kc3, kc4, kc5, kc6, kc7, kc8, kc9, kc10, kc11, kc12, kc13, kc14, kc15, kc16, kc17, kc18, kc19, kc20, kc21, kc22, kc23, kc24, kc25, kc26, kc27, kc28, kc29, kc30, kc31, kc32, kc33] at q15
                  iterate 2 (refine hX _ ?_; conv => whnf)
                  refine hX _ ?_; conv => whnf
                  refine ⟨fun q21 => ?_, fun q21 => ?_⟩
                  · try simp (disch := omega) only [bg_w_id, Int.toNat_natCast, rw_land, sh_land, not_true_eq_false, ea, eb, kc0, kc1, kc2, kc3, kc4, kc5, kc6, kc7, kc8, kc9, kc10, kc11, kc12, kc13, kc14, kc15, kc16, kc17, kc18, kc19, kc20, kc21, kc22, kc23, kc24, kc25, kc26, kc27, kc28, kc29, kc30, kc31, kc32, kc33] at q21
                    iterate 2 (refine hX _ ?_; conv => whnf)
                    refine hX _ ?_; conv => whnf
                    refine ⟨fun q41 => ?_, fun q41 => ?_⟩
                    · try simp (disch := omega) only [bg_w_id, Int.toNat_natCast, rw_land, sh_land, not_true_eq_false, ea, eb, kc0, kc1, kc2, kc3, kc4, kc5, kc6, kc7, kc8, kc9, kc10, kc11, kc12, kc13, kc14, kc15, kc16, kc17, kc18, kc19, kc20, kc21, kc22, kc23, kc24, kc25, kc26, kc27, kc28, kc29, kc30, kc31, kc32, kc33] at q41
                      refine hX _ ?_; conv => whnf
                      refine hX _ ?_; conv => whnf
                      refine ⟨fun q51 => ?_, fun q51 => ?_⟩
                      · try simp (disch := omega) only [bg_w_id, Int.toNat_natCast, rw_land, sh_land, not_true_eq_false, ea, eb, kc0, kc1, kc2, kc3, kc4, kc5, kc6, kc7, kc8, kc9, kc10, kc11, kc12, kc13, kc14, kc15, kc16, kc17, kc18, kc19, kc20, kc21, kc22, kc23, kc24, kc25, kc26, kc27, kc28, kc29, kc30, kc31, kc32, kc33] at q51
                        iterate 4 (refine hX _ ?_; conv => whnf)
                        refine hX _ ?_; conv => whnf
                        try (simp (disch := omega) only [bg_w_id, Int.toNat_natCast, rw_land, sh_land, not_true_eq_false, ea, eb]; try conv => whnf)
                        refine ⟨by first | omega | (simp (disch := omega) only [bg_w_id, Int.toNat_natCast, rw_land, sh_land, not_true_eq_false, ea, eb]; omega), ?_⟩
                        iterate 5 (refine hX _ ?_; conv => whnf)
                        refine hX _ ?_; conv => whnf
                        try (simp (disch := omega) only [bg_w_id, Int.toNat_natCast, rw_land, sh_land, not_true_eq_false, ea, eb]; try conv => whnf)
                        refine ⟨by first | omega | (simp (disch := omega) only [bg_w_id, Int.toNat_natCast, rw_land, sh_land, not_true_eq_false, ea, eb]; omega), ?_⟩
                        refine hX _ ?_; conv => whnf
                        try simp (disch := omega) only [bg_w_id, Int.toNat_natCast, rw_land, sh_land, not_true_eq_false, ea, eb]
                        try rw [ea]
                        try rw [eb]
                        refine s_mgm d n (mb a r) (mb b c) xa.1 xb.1 h2 hl2 (by rw [e122]; exact h0) _ ?_
                        rw [gm_fr fs]
                        conv => whnf
                        refine hX _ ?_; conv => whnf
                        try simp (disch := omega) only [bg_w_id, Int.toNat_natCast, rw_land, sh_land, not_true_eq_false, ea, eb]
                        try rw [bg_w_id (by omega) (by omega)]
                        exact this _
                      · exfalso
                        (try simp (disch := omega) only [bg_w_id, Int.toNat_natCast, rw_land, sh_land, not_true_eq_false, ea, eb, kc0, kc1, kc2, kc3, kc4, kc5, kc6, kc7, kc8, kc9, kc10, kc11, kc12, kc13, kc14, kc15, kc16, kc17, kc18, kc19, kc20, kc21, kc22, kc23, kc24, kc25, kc26, kc27, kc28, kc29, kc30, kc31, kc32, kc33] at q51) <;> (omega)
                    · exfalso
                      (try simp (disch := omega) only [bg_w_id, Int.toNat_natCast, rw_land, sh_land, not_true_eq_false, ea, eb, kc0, kc1, kc2, kc3, kc4, kc5, kc6, kc7, kc8, kc9, kc10, kc11, kc12, kc13, kc14, kc15, kc16, kc17, kc18, kc19, kc20, kc21, kc22, kc23, kc24, kc25, kc26, kc27, kc28, kc29, kc30, kc31, kc32, kc33] at q41) <;> (omega)
                  · exfalso
                    (try simp (disch := omega) only [bg_w_id, Int.toNat_natCast, rw_land, sh_land, not_true_eq_false, ea, eb, kc0, kc1, kc2, kc3, kc4, kc5, kc6, kc7, kc8, kc9, kc10, kc11, kc12, kc13, kc14, kc15, kc16, kc17, kc18, kc19, kc20, kc21, kc22, kc23, kc24, kc25, kc26, kc27, kc28, kc29, kc30, kc31, kc32, kc33] at q21) <;> (omega)
      iterate 2 (refine hX _ ?_; conv => whnf)
      refine hX _ ?_; conv => whnf
      refine ⟨fun q6 => ?_, fun q6 => ?_⟩
      · exfalso
        (try simp (disch := omega) only [bg_w_id, Int.toNat_natCast, rw_land, sh_land, not_true_eq_false, kc0, kc1, kc2, kc3, kc4, kc5, kc6, kc7, kc8, kc9, kc10, kc11, kc12, kc13, kc14, kc15, kc16, kc17, kc18, kc19, kc20, kc21, kc22, kc23, kc24, kc25, kc26, kc27, kc28, kc29, kc30, kc31, kc32, kc33] at q6) <;> (omega)
      · try simp (disch := omega) only [bg_w_id, Int.toNat_natCast, rw_land, sh_land, not_true_eq_false, kc0, kc1, kc2, kc3, kc4, kc5, kc6, kc7, kc8, kc9, kc10, kc11, kc12, kc13, kc14, kc15, kc16, kc17, kc18, kc19, kc20, kc21, kc22, kc23, kc24, kc25, kc26, kc27, kc28, kc29, kc30, kc31, kc32, kc33] at q6
        iterate 2 (refine hX _ ?_; conv => whnf)
        exact l2 0 (by omega) h' _ f1 (fun r' c' hx => f2 r' c' (by omega) (by omega))
  iterate 2 (refine hX _ ?_; conv => whnf)
  exact l1 0 (by omega) h _ _ (fun _ _ => rfl) (fun r' c hr' => absurd hr' (by omega))
/-- the determinant of the cells laid -/
theorem det_id {sd k ins : Nat} {A : Nat → Nat → Int} (h1 : 1 ≤ k ∧ k ≤ 4) {h : bg_G} (hc : ∀ r c : Nat, r < k + 1 → c < k + 1 → h 135 ((5 * r + c : Nat) : Int) = clF sd k ins A (5 * r + c)) : detL (k + 1) (fun i : Nat => h 135 (i : Int)) = detL (k + 1) (clF sd k ins (sq4 A)) := detL_cn (by omega) (fun r c hr hcc => by
  show h 135 ((5 * r + c : Nat) : Int) = _
  rw [hc r c hr hcc]
  unfold clF
  rw [show (5 * r + c) % 5 = c by omega, show (5 * r + c) / 5 = r by omega]
  by_cases e1 : c = ins
  · rw [if_pos e1, if_pos e1]
  · rw [if_neg e1, if_neg e1]
    by_cases e2 : r = k
    · rw [if_pos e2, if_pos e2]
    · rw [if_neg e2, if_neg e2]
      by_cases e3 : c = k
      · rw [if_pos e3, if_pos e3]
      · rw [if_neg e3, if_neg e3, sq4_eq A (by omega), sq4_eq A (by omega)])
theorem mnr_c {k : Nat} {R R' : Nat → Nat → Int} (hk : k ≤ 3) (h : ∀ l q, l < 3 → q < 3 → R l q = R' l q) : mnr k R = mnr k R' := by
  have e := fun l q => h l q
  unfold mnr
  split
  · rfl
  · exact e 0 0 (by omega) (by omega)
  · rw [e 0 0 (by omega) (by omega), e 0 1 (by omega) (by omega), e 1 0 (by omega) (by omega), e 1 1 (by omega) (by omega)]
  · rw [e 0 0 (by omega) (by omega), e 0 1 (by omega) (by omega), e 0 2 (by omega) (by omega), e 1 0 (by omega) (by omega), e 1 1 (by omega) (by omega), e 1 2 (by omega) (by omega), e 2 0 (by omega) (by omega), e 2 1 (by omega) (by omega), e 2 2 (by omega) (by omega)]
theorem cof_c {k : Nat} {A A' : Nat → Nat → Int} (hk : k ≤ 4) (h : ∀ i j, i < 4 → j < 4 → A i j = A' i j) {i j : Nat} : cof k A i j = cof k A' i j := by
  have sk : ∀ x l : Nat, l < 3 → skp x l < 4 := fun x l hl => by unfold skp; split <;> omega
  unfold cof
  rw [mnr_c (k := k - 1) (by omega) (fun l q hl hq => h _ _ (sk i l hl) (sk j q hq))]
theorem sm_ms {s : Nat} (hs : s < 16) (f : Nat → Int) : ∀ c, c ≤ 4 → sm c (fun c => if s.testBit c = true then f (ah s c) else 0) = sm (ah s c) f
  | 0, _ => by rw [ah_0]; rfl
  | c + 1, hc => by
    rw [sm_s, sm_ms hs f c (by omega), (ah_s s hs c (by omega)).1]
    by_cases e : s.testBit c = true
    · rw [if_pos e, if_pos e, sm_s]
    · rw [if_neg e, if_neg e, Int.add_zero, Nat.add_zero]
theorem sm_m4 {s : Nat} (hs : s < 16) (f : Nat → Int) : sm 4 (fun c => if s.testBit c = true then f (ah s c) else 0) = sm (pc 15 s) f := by rw [sm_ms hs f 4 (by omega), ah_4 s hs]
theorem GP_k {B : Nat → Nat → Int} {a b g : Nat} (hb : b < 16) (hab : pc 15 b = pc 15 a) (hg : a.testBit g = true) : GP B a b g = gkF (pc 15 a) (SQ B a b) (ah a g) := by
  unfold GP gkF
  rw [← hab, ← sm_m4 hb]
  refine sm_congr (fun c _ => ?_)
  show mmF B a b g c = _
  unfold mmF
  rw [hab]
  by_cases e : b.testBit c = true
  · rw [if_pos ⟨hg, e⟩, if_pos e]
  · rw [if_neg (fun x => e x.2), if_neg e]
theorem CP_k {B : Nat → Nat → Int} {a b c : Nat} (ha : a < 16) (hc : b.testBit c = true) : CP B a b c = ckF (pc 15 a) (SQ B a b) (ah b c) := by
  unfold CP ckF
  rw [← sm_m4 ha]
  refine sm_congr (fun g _ => ?_)
  show mmF B a b g c = _
  unfold mmF
  by_cases e : a.testBit g = true
  · rw [if_pos ⟨e, hc⟩, if_pos e]
  · rw [if_neg (fun x => e x.1), if_neg e]
theorem WW_k {B : Nat → Nat → Int} {a b : Nat} (ha : a < 16) (hb : b < 16) (hab : pc 15 b = pc 15 a) : WW B a b = WkF (pc 15 a) (SQ B a b) := by
  unfold WW WkF
  rw [← sm_m4 ha]
  refine sm_congr (fun g _ => ?_)
  show GP B a b g = _
  by_cases e : a.testBit g = true
  · rw [if_pos e, GP_k hb hab e]
  · rw [if_neg e, GP_out e]
theorem sm_mul {n : Nat} {f : Nat → Int} {s : Int} : sm n (fun i => s * f i) = s * sm n f := by
  induction n with
  | zero => show (0 : Int) = s * 0; rw [Int.mul_zero]
  | succ n ih => rw [sm_s, sm_s, ih, Int.mul_add]
theorem vl_k {B : Nat → Nat → Int} {a b : Nat} (ha : a < 16) (hb : b < 16) (hab : pc 15 b = pc 15 a) (h1 : 1 ≤ pc 15 a) : vlF B a b = sgW B a b * dvF (pc 15 a) (SQ B a b) := by
  unfold vlF mBy dvF
  rw [← sm_mul]
  rw [← hab, ← sm_m4 hb]
  refine sm_congr (fun c hc => ?_)
  show sgW B a b * CP B a b c * B (mb a 0) c = _
  by_cases e : b.testBit c = true
  · rw [if_pos e, CP_k ha e, hab, Int.mul_assoc]
    show sgW B a b * (ckF (pc 15 a) (SQ B a b) (ah b c) * B (mb a 0) c) = sgW B a b * (ckF (pc 15 a) (SQ B a b) (ah b c) * B (mb a 0) (mb b (ah b c)))
    rw [((ah_s b hb c hc).2 e).1]
  · rw [if_neg e, CP_out e, Int.mul_zero, Int.zero_mul]
