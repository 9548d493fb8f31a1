theorem b4_fr {h h' : bg_G} (e : ∀ k, 117 ≤ k → k ≤ 125 → h' k = h k) : b4 h' = b4 h := by
  have ew : wsM h' = wsM h := by unfold wsM; rw [e 117 (by omega) (by omega), e 118 (by omega) (by omega)]
  funext g c
  unfold b4 bgM gmM thrM
  rw [ew, e 122 (by omega) (by omega), e 123 (by omega) (by omega), heldM_fr (e 120 (by omega) (by omega)), show (fun p => bearM h' (heldM h (h 122 g)) p 0) = fun p => bearM h (heldM h (h 122 g)) p 0 from funext (fun p => bearM_fr (e 118 (by omega) (by omega)))]
theorem tgM_fr {h h' : bg_G} (e : h' 122 = h 122) : tgM h' = tgM h := by unfold tgM; rw [e]
theorem tcM_fr {h h' : bg_G} (e : h' 123 = h 123) : tcM h' = tcM h := by unfold tcM; rw [e]
theorem s_misSup (d n a b : Nat) (ha : a < 16) (hb : b < 16) (hab : pc 15 b = pc 15 a) (h1 : 1 ≤ pc 15 a ∧ pc 15 a ≤ 4) (h : bg_G) (hl : LAID h) (hta : sub a (tgM h)) (htb : sub b (tcM h)) (hG : BG (b4 h)) (Rt : bg_R) (hR1 : mixP (b4 h) a b ∧ ndb (b4 h) (tgM h) (tcM h) a b 4 → ∀ h' : bg_G, frS h h' → SLV h' (b4 h) a b → Rt (some (.inl 1)) (bg_SH n, h')) (hR0 : ¬ (mixP (b4 h) a b ∧ ndb (b4 h) (tgM h) (tcM h) a b 4) → ∀ h' : bg_G, frS h h' → Rt (some (.inl 0)) (bg_SH n, h')) : bg_Ca bg_MS (d + 7) 174 [vR 115, vI a, vI b] (bg_SH n, h) Rt := by
  have ta0 : ∀ g : Nat, g < 4 → a.testBit g = true → 0 ≤ h 122 g := fun g hg x => (tS_b (fun k => h 122 k) hg).1 (sub_b a ha _ (tSet_lt _) hta g hg x)
  have tb0 : ∀ c : Nat, c < 4 → b.testBit c = true → 0 ≤ h 123 c := fun c hc x => (tS_b (fun k => h 123 k) hc).1 (sub_b b hb _ (tSet_lt _) htb c hc x)
  refine bg_ca (cd := cd_X9_isSupport) rfl rfl ?_
  intro X hX
  have go : ∀ h2 : bg_G, frS h h2 → MEM h2 a b → bg_Ca bg_MS (d + 6) 172 [vR 115, vI (pc 15 a : Nat)] (bg_SH n, h2) (fun r H' => X (20, [oR 115, oI (a : Int), oI (b : Int)], bg_push r [], H', (0, 0))) := by
    intro h2 f2 hm
    have e := frS_e f2
    have eb : b4 h2 = b4 h := b4_fr (fun k k1 k2 => e k (by omega) (by omega))
    have etg : tgM h2 = tgM h := tgM_fr (e _ (by omega) (by omega))
    have etc : tcM h2 = tcM h := tcM_fr (e _ (by omega) (by omega))
    refine s_msolve d n a b ha hb hab h1 h2 (LAID_fr hl f2) hm (by rw [etg]; exact hta) (by rw [etc]; exact htb) (by rw [eb]; exact hG) _ (fun mx h3 f3 _ sl => ?_) (fun mx h3 f3 => ?_)
    · rw [eb] at mx sl
      have f13 := frS_trans f2 f3
      have e3 := frS_e f13
      have etg3 : tgM h3 = tgM h := tgM_fr (e3 _ (by omega) (by omega))
      have etc3 : tcM h3 = tcM h := tcM_fr (e3 _ (by omega) (by omega))
      have hg : ∀ g c : Nat, g < 4 → c < 4 → 0 ≤ h3 122 g → 0 ≤ h3 123 c → gmM h3 g c = b4 h g c := fun g c hg hc x y => by
        rw [gm_fr f13]
        rw [e3 122 (by omega) (by omega)] at x
        rw [e3 123 (by omega) (by omega)] at y
        unfold b4 bgM
        rw [if_pos ⟨hg, hc⟩, if_pos ⟨x, y⟩]
      by_cases nd : ndb (b4 h) (tgM h) (tcM h) a b 4
      · refine hX _ ?_; conv => whnf
        refine ⟨fun q20 => ?_, fun q20 => ?_⟩
        · exfalso
          (try simp (disch := omega) only [bg_w_id, Int.toNat_natCast, rw_land, sh_land, not_true_eq_false, kc0, kc1, kc2, kc3, kc4, kc5, kc6, kc7, kc8, kc9, kc10, kc11, kc12, kc13, kc14, kc15, kc16, kc17, kc18, kc19, kc20, kc21, kc22, kc23, kc24, kc25, kc26, kc27, kc28, kc29, kc30, kc31, kc32, kc33] at q20) <;> (omega)
        · try simp (disch := omega) only [bg_w_id, Int.toNat_natCast, rw_land, sh_land, not_true_eq_false, kc0, kc1, kc2, kc3, kc4, kc5, kc6, kc7, kc8, kc9, kc10, kc11, kc12, kc13, kc14, kc15, kc16, kc17, kc18, kc19, kc20, kc21, kc22, kc23, kc24, kc25, kc26, kc27, kc28, kc29, kc30, kc31, kc32, kc33] at q20
          refine hX _ ?_; conv => whnf
          refine hX _ ?_; conv => whnf
          try simp (disch := omega) only [bg_w_id, Int.toNat_natCast, rw_land, sh_land, not_true_eq_false]
          refine s_mholds (d + 1) n a b (b4 h) hG h3 (LAID_fr hl f13) hg (by rw [e3 122 (by omega) (by omega)]; exact ta0) (by rw [e3 123 (by omega) (by omega)]; exact tb0) sl _ (fun _ => ?_) (fun x => absurd (by rw [etg3, etc3]; exact nd) x)
          conv => whnf
          refine hX _ ?_; conv => whnf
          refine ⟨fun q27 => ?_, fun q27 => ?_⟩
          · exfalso
            (try simp (disch := omega) only [bg_w_id, Int.toNat_natCast, rw_land, sh_land, not_true_eq_false, kc0, kc1, kc2, kc3, kc4, kc5, kc6, kc7, kc8, kc9, kc10, kc11, kc12, kc13, kc14, kc15, kc16, kc17, kc18, kc19, kc20, kc21, kc22, kc23, kc24, kc25, kc26, kc27, kc28, kc29, kc30, kc31, kc32, kc33] at q27) <;> (omega)
          · try simp (disch := omega) only [bg_w_id, Int.toNat_natCast, rw_land, sh_land, not_true_eq_false, kc0, kc1, kc2, kc3, kc4, kc5, kc6, kc7, kc8, kc9, kc10, kc11, kc12, kc13, kc14, kc15, kc16, kc17, kc18, kc19, kc20, kc21, kc22, kc23, kc24, kc25, kc26, kc27, kc28, kc29, kc30, kc31, kc32, kc33] at q27
            iterate 2 (refine hX _ ?_; conv => whnf)
            refine hX _ ?_; conv => whnf
            exact ⟨by omega, hR1 ⟨mx, nd⟩ h3 f13 sl⟩
      · refine hX _ ?_; conv => whnf
        refine ⟨fun q20 => ?_, fun q20 => ?_⟩
        · exfalso
          (try simp (disch := omega) only [bg_w_id, Int.toNat_natCast, rw_land, sh_land, not_true_eq_false, kc0, kc1, kc2, kc3, kc4, kc5, kc6, kc7, kc8, kc9, kc10, kc11, kc12, kc13, kc14, kc15, kc16, kc17, kc18, kc19, kc20, kc21, kc22, kc23, kc24, kc25, kc26, kc27, kc28, kc29, kc30, kc31, kc32, kc33] at q20) <;> (omega)
        · try simp (disch := omega) only [bg_w_id, Int.toNat_natCast, rw_land, sh_land, not_true_eq_false, kc0, kc1, kc2, kc3, kc4, kc5, kc6, kc7, kc8, kc9, kc10, kc11, kc12, kc13, kc14, kc15, kc16, kc17, kc18, kc19, kc20, kc21, kc22, kc23, kc24, kc25, kc26, kc27, kc28, kc29, kc30, kc31, kc32, kc33] at q20
          refine hX _ ?_; conv => whnf
          refine hX _ ?_; conv => whnf
          try simp (disch := omega) only [bg_w_id, Int.toNat_natCast, rw_land, sh_land, not_true_eq_false]
          refine s_mholds (d + 1) n a b (b4 h) hG h3 (LAID_fr hl f13) hg (by rw [e3 122 (by omega) (by omega)]; exact ta0) (by rw [e3 123 (by omega) (by omega)]; exact tb0) sl _ (fun x => absurd (by rw [etg3, etc3] at x; exact x) nd) (fun _ => ?_)
          conv => whnf
          refine hX _ ?_; conv => whnf
          refine ⟨fun q27 => ?_, fun q27 => ?_⟩
          · try simp (disch := omega) only [bg_w_id, Int.toNat_natCast, rw_land, sh_land, not_true_eq_false, kc0, kc1, kc2, kc3, kc4, kc5, kc6, kc7, kc8, kc9, kc10, kc11, kc12, kc13, kc14, kc15, kc16, kc17, kc18, kc19, kc20, kc21, kc22, kc23, kc24, kc25, kc26, kc27, kc28, kc29, kc30, kc31, kc32, kc33] at q27
            refine hX _ ?_; conv => whnf
            refine hX _ ?_; conv => whnf
            exact ⟨by omega, hR0 (fun x => nd x.2) h3 f13⟩
          · exfalso
            (try simp (disch := omega) only [bg_w_id, Int.toNat_natCast, rw_land, sh_land, not_true_eq_false, kc0, kc1, kc2, kc3, kc4, kc5, kc6, kc7, kc8, kc9, kc10, kc11, kc12, kc13, kc14, kc15, kc16, kc17, kc18, kc19, kc20, kc21, kc22, kc23, kc24, kc25, kc26, kc27, kc28, kc29, kc30, kc31, kc32, kc33] at q27) <;> (omega)
    · rw [eb] at mx
      refine hX _ ?_; conv => whnf
      refine ⟨fun q20 => ?_, fun q20 => ?_⟩
      · try simp (disch := omega) only [bg_w_id, Int.toNat_natCast, rw_land, sh_land, not_true_eq_false, kc0, kc1, kc2, kc3, kc4, kc5, kc6, kc7, kc8, kc9, kc10, kc11, kc12, kc13, kc14, kc15, kc16, kc17, kc18, kc19, kc20, kc21, kc22, kc23, kc24, kc25, kc26, kc27, kc28, kc29, kc30, kc31, kc32, kc33] at q20
        refine hX _ ?_; conv => whnf
        refine hX _ ?_; conv => whnf
        exact ⟨by omega, hR0 (fun x => mx x.1) h3 (frS_trans f2 f3)⟩
      · exfalso
        (try simp (disch := omega) only [bg_w_id, Int.toNat_natCast, rw_land, sh_land, not_true_eq_false, kc0, kc1, kc2, kc3, kc4, kc5, kc6, kc7, kc8, kc9, kc10, kc11, kc12, kc13, kc14, kc15, kc16, kc17, kc18, kc19, kc20, kc21, kc22, kc23, kc24, kc25, kc26, kc27, kc28, kc29, kc30, kc31, kc32, kc33] at q20) <;> (omega)
  iterate 3 (refine hX _ ?_; conv => whnf)
  refine hX _ ?_; conv => whnf
  try simp (disch := omega) only [bg_w_id, Int.toNat_natCast, rw_land, sh_land, not_true_eq_false]
  refine s_mlayMembers (d + 4) n 0 a (by omega) ha h _ (fun h1 f1 f2 f3 => ?_)
  conv => whnf
  iterate 3 (refine hX _ ?_; conv => whnf)
  refine hX _ ?_; conv => whnf
  try simp (disch := omega) only [bg_w_id, Int.toNat_natCast, rw_land, sh_land, not_true_eq_false]
  refine s_mlayMembers (d + 4) n 1 b (by omega) hb h1 _ (fun h2 g1 g2 g3 => ?_)
  have fr2 : frS h h2 := ⟨fun k _ _ _ k4 => by rw [g1 k k4, f1 k k4], fun j _ _ => by rw [g1 115 (by omega), f1 115 (by omega)]⟩
  have mem : MEM h2 a b := by
    refine ⟨fun i hi => ?_, fun j hj => ?_⟩
    · rw [g2 _ (by omega)]
      have := f3 i hi
      rw [show 4 * ((0 : Nat) : Int) + (i : Int) = i by omega] at this
      exact this
    · have := g3 j (by omega)
      rw [show 4 * ((1 : Nat) : Int) + (j : Int) = 4 + (j : Int) by omega] at this
      exact this
  conv => whnf
  iterate 2 (refine hX _ ?_; conv => whnf)
  refine hX _ ?_; conv => whnf
  try simp (disch := omega) only [bg_w_id, Int.toNat_natCast, rw_land, sh_land, not_true_eq_false]
  refine s_mbits (d + 5) a (by omega) _ _ ?_
  conv => whnf
  refine hX _ ?_; conv => whnf
  exact go h2 fr2 mem
def frPl (h h' : bg_G) : Prop := (∀ k, k ≠ 115 → k ≠ 127 → k ≠ 128 → k ≠ 133 → k ≠ 135 → k ≠ 136 → k ≠ 137 → h' k = h k) ∧ (∀ j, j ≠ 14 → j ≠ 15 → j ≠ 28 → j ≠ 29 → h' 115 j = h 115 j) ∧ LAID h'
theorem s_mplay (d n : Nat) (h : bg_G) (ho : okM h) (hw : wayL h) (hlo : lotM h) (hG : BG (b4 h)) (Rt : bg_R) (hR1 : ∀ k a b, FST (b4 h) (tgM h) (tcM h) k a b → ∀ h' : bg_G, frPl h h' → SLV h' (b4 h) a b → Rt (some (.inl 1)) (bg_SH n, h')) (hR0 : (∀ k a b, rg3 k a b → ¬ SUP (b4 h) (tgM h) (tcM h) k a b) → ∀ h' : bg_G, frPl h h' → Rt (some (.inl 0)) (bg_SH n, h')) : bg_Ca bg_MS (d + 8) 175 [vR 115] (bg_SH n, h) Rt := by
  have g16 : tgM h < 16 := tSet_lt _
  have c16 : tcM h < 16 := tSet_lt _
  refine bg_ca (cd := cd_X9_play) rfl rfl ?_
  intro X hX
  have main : ∀ h1 : bg_G, frW h h1 → X (4, [oR 115, none, none, none, none, none], [], (bg_SH n, h1), (0, 0)) := by
    intro h1 fw
    have ew := frW_ws fw
    have e1 : ∀ k, 117 ≤ k → k ≤ 126 → h1 k = h k := fun k a b => fw.1 k (by omega) (by omega) (by omega) (by omega)
    have ld : LAID h1 := ⟨frW_ok fw ho, fw.2.2.1, fw.2.2.2, by unfold lotM; rw [ew, e1 122 (by omega) (by omega), e1 123 (by omega) (by omega), e1 117 (by omega) (by omega), e1 119 (by omega) (by omega)]; exact hlo⟩
    have rl : ∀ k : Nat, k < 4 → i32 (h1 122 k) ∧ i32 (h1 123 k) := fun k hk => by
      have x := ld.2.2.2 k hk
      have wl : (wsM h1).length ≤ 400 := wsG_len _ _ _
      refine ⟨?_, by omega⟩
      rcases x.1 with e | ⟨e1, e2⟩
      · omega
      · have := e1.1
        omega
    have e121 := e1 122 (by omega) (by omega)
    have e122 := e1 123 (by omega) (by omega)
    have toP : ∀ h2 : bg_G, frS h1 h2 → frPl h h2 := fun h2 f2 => ⟨fun k k1 k2 k3 k4 k5 k6 k7 => by rw [f2.1 k k1 k5 k6 k7, fw.1 k k1 k2 k3 k4], fun j j1 j2 j3 j4 => by rw [f2.2 j j3 j4, fw.2.1 j j1 j2], LAID_fr ld f2⟩
    -- the carriers' sets
    have l3 : ∀ k a, 1 ≤ k → k ≤ 4 → 1 ≤ a → a < 16 → (∀ k' a' b', rg3 k' a' b' → (k' < k ∨ (k' = k ∧ a' < a)) → ¬ SUP (b4 h) (tgM h) (tcM h) k' a' b') → (∀ h2 : bg_G, frS h1 h2 → (∀ b', rg3 k a b' → ¬ SUP (b4 h) (tgM h) (tcM h) k a b') → X (26, [oR 115, oI (tgM h : Nat), oI (tcM h : Nat), oI (k : Int), oI ((a : Int) + 1), oI ((16 : Nat) : Int)], [], (bg_SH n, h2), (0, 0))) → ∀ b, b ≤ 16 → 1 ≤ b → ∀ h2 : bg_G, frS h1 h2 → (∀ b', 1 ≤ b' → b' < b → ¬ SUP (b4 h) (tgM h) (tcM h) k a b') → X (36, [oR 115, oI (tgM h : Nat), oI (tcM h : Nat), oI (k : Int), oI (a : Int), oI (b : Int)], [], (bg_SH n, h2), (0, 0)) := by
      intro k a k1 k4 a1 a16 hn hnext
      have eba : ((pc 15 a : Nat) : Int) ≤ 15 := by have := pc_le 15 a; omega
      refine lp_up 16 _ ?_ (fun b hb ih => ?_)
      · intro _ h2 f2 hn2
        have := hnext h2 f2 (fun b' hr => hn2 b' hr.2.2.1 hr.2.2.2)
        iterate 2 (refine hX _ ?_; conv => whnf)
        refine hX _ ?_; conv => whnf
        refine ⟨fun q40 => ?_, fun q40 => ?_⟩
        · try simp (disch := omega) only [bg_w_id, Int.toNat_natCast, rw_land, sh_land, not_true_eq_false, kc0, kc1, kc2, kc3, kc4, kc5, kc6, kc7, kc8, kc9, kc10, kc11, kc12, kc13, kc14, kc15, kc16, kc17, kc18, kc19, kc20, kc21, kc22, kc23, kc24, kc25, kc26, kc27, kc28, kc29, kc30, kc31, kc32, kc33] at q40
          iterate 2 (refine hX _ ?_; conv => whnf)
          exact this
        · exfalso
          (try simp (disch := omega) only [bg_w_id, Int.toNat_natCast, rw_land, sh_land, not_true_eq_false, kc0, kc1, kc2, kc3, kc4, kc5, kc6, kc7, kc8, kc9, kc10, kc11, kc12, kc13, kc14, kc15, kc16, kc17, kc18, kc19, kc20, kc21, kc22, kc23, kc24, kc25, kc26, kc27, kc28, kc29, kc30, kc31, kc32, kc33] at q40) <;> (omega)
      · intro hb1 h2 f2 hn2
        have pb := pc_le 15 b
        have pa := pc_le 15 a
        have e2 := frS_e f2
        have eb4 : b4 h2 = b4 h := b4_fr (fun q q1 q2 => by rw [e2 q (by omega) (by omega), e1 q (by omega) (by omega)])
        have etg : tgM h2 = tgM h := tgM_fr (by rw [e2 122 (by omega) (by omega), e121])
        have etc : tcM h2 = tcM h := tcM_fr (by rw [e2 123 (by omega) (by omega), e122])
        have next : ¬ SUP (b4 h) (tgM h) (tcM h) k a b → ∀ h3 : bg_G, frS h1 h3 → X (36, [oR 115, oI (tgM h : Nat), oI (tcM h : Nat), oI (k : Int), oI (a : Int), oI ((b : Int) + 1)], [], (bg_SH n, h3), (0, 0)) := fun hx h3 f3 => ih (by omega) h3 f3 (fun b' x1 x2 => by
          by_cases e : b' = b
          · subst e; exact hx
          · exact hn2 b' x1 (by omega))
        by_cases q1 : sub a (tgM h)
        · by_cases q2 : sub b (tcM h)
          · by_cases q3 : pc 15 a = k
            · by_cases q4 : pc 15 b = k
              · have go : bg_Ca bg_MS (d + 7) 174 [vR 115, vI a, vI b] (bg_SH n, h2) (fun r H' => X (87, [oR 115, oI (tgM h : Nat), oI (tcM h : Nat), oI (k : Int), oI (a : Int), oI (b : Int)], bg_push r [], H', (0, 0))) := by
                  refine s_misSup d n a b a16 hb (by omega) (by omega) h2 (LAID_fr ld f2) (by rw [etg]; exact q1) (by rw [etc]; exact q2) (by rw [eb4]; exact hG) _ (fun x h3 f3 sl => ?_) (fun x h3 f3 => ?_)
                  · rw [eb4, etg, etc] at x
                    rw [eb4] at sl
                    have sup : SUP (b4 h) (tgM h) (tcM h) k a b := ⟨⟨q1, q3⟩, ⟨q2, q4⟩, x.1, x.2⟩
                    have fst : FST (b4 h) (tgM h) (tcM h) k a b := by
                      refine ⟨⟨⟨k1, k4⟩, ⟨a1, a16⟩, ⟨hb1, hb⟩⟩, sup, fun k' a' b' hr hs' => ?_⟩
                      have z1 : ¬ (k' < k ∨ (k' = k ∧ a' < a)) := fun y => hn k' a' b' hr y hs'
                      by_cases z2 : k' = k ∧ a' = a
                      · obtain ⟨rfl, rfl⟩ := z2
                        have : ¬ b' < b := fun y => hn2 b' hr.2.2.1 y hs'
                        omega
                      · omega
                    refine hX _ ?_; conv => whnf
                    refine ⟨fun q87 => ?_, fun q87 => ?_⟩
                    · exfalso
                      (try simp (disch := omega) only [bg_w_id, Int.toNat_natCast, rw_land, sh_land, not_true_eq_false, kc0, kc1, kc2, kc3, kc4, kc5, kc6, kc7, kc8, kc9, kc10, kc11, kc12, kc13, kc14, kc15, kc16, kc17, kc18, kc19, kc20, kc21, kc22, kc23, kc24, kc25, kc26, kc27, kc28, kc29, kc30, kc31, kc32, kc33] at q87) <;> (omega)
                    · try simp (disch := omega) only [bg_w_id, Int.toNat_natCast, rw_land, sh_land, not_true_eq_false, kc0, kc1, kc2, kc3, kc4, kc5, kc6, kc7, kc8, kc9, kc10, kc11, kc12, kc13, kc14, kc15, kc16, kc17, kc18, kc19, kc20, kc21, kc22, kc23, kc24, kc25, kc26, kc27, kc28, kc29, kc30, kc31, kc32, kc33] at q87
                      refine hX _ ?_; conv => whnf
                      refine hX _ ?_; conv => whnf
                      exact ⟨by omega, hR1 k a b fst h3 (toP h3 (frS_trans f2 f3)) sl⟩
                  · rw [eb4, etg, etc] at x
                    refine hX _ ?_; conv => whnf
                    refine ⟨fun q87 => ?_, fun q87 => ?_⟩
                    · try simp (disch := omega) only [bg_w_id, Int.toNat_natCast, rw_land, sh_land, not_true_eq_false, kc0, kc1, kc2, kc3, kc4, kc5, kc6, kc7, kc8, kc9, kc10, kc11, kc12, kc13, kc14, kc15, kc16, kc17, kc18, kc19, kc20, kc21, kc22, kc23, kc24, kc25, kc26, kc27, kc28, kc29, kc30, kc31, kc32, kc33] at q87
                      iterate 2 (refine hX _ ?_; conv => whnf)
                      exact next (fun y => x ⟨y.2.2.1, y.2.2.2⟩) h3 (frS_trans f2 f3)
                    · exfalso
                      (try simp (disch := omega) only [bg_w_id, Int.toNat_natCast, rw_land, sh_land, not_true_eq_false, kc0, kc1, kc2, kc3, kc4, kc5, kc6, kc7, kc8, kc9, kc10, kc11, kc12, kc13, kc14, kc15, kc16, kc17, kc18, kc19, kc20, kc21, kc22, kc23, kc24, kc25, kc26, kc27, kc28, kc29, kc30, kc31, kc32, kc33] at q87) <;> (omega)
                iterate 2 (refine hX _ ?_; conv => whnf)
                refine hX _ ?_; conv => whnf
                refine ⟨fun q40 => ?_, fun q40 => ?_⟩
                · exfalso
                  (try simp (disch := omega) only [bg_w_id, Int.toNat_natCast, rw_land, sh_land, not_true_eq_false, kc0, kc1, kc2, kc3, kc4, kc5, kc6, kc7, kc8, kc9, kc10, kc11, kc12, kc13, kc14, kc15, kc16, kc17, kc18, kc19, kc20, kc21, kc22, kc23, kc24, kc25, kc26, kc27, kc28, kc29, kc30, kc31, kc32, kc33] at q40) <;> (omega)
                · try simp (disch := omega) only [bg_w_id, Int.toNat_natCast, rw_land, sh_land, not_true_eq_false, kc0, kc1, kc2, kc3, kc4, kc5, kc6, kc7, kc8, kc9, kc10, kc11, kc12, kc13, kc14, kc15, kc16, kc17, kc18, kc19, kc20, kc21, kc22, kc23, kc24, kc25, kc26, kc27, kc28, kc29, kc30, kc31, kc32, kc33] at q40
                  iterate 5 (refine hX _ ?_; conv => whnf)
                  refine hX _ ?_; conv => whnf
                  refine ⟨fun q49 => ?_, fun q49 => ?_⟩
                  · exfalso
                    (try simp (disch := omega) only [bg_w_id, Int.toNat_natCast, rw_land, sh_land, not_true_eq_false, kc0, kc1, kc2, kc3, kc4, kc5, kc6, kc7, kc8, kc9, kc10, kc11, kc12, kc13, kc14, kc15, kc16, kc17, kc18, kc19, kc20, kc21, kc22, kc23, kc24, kc25, kc26, kc27, kc28, kc29, kc30, kc31, kc32, kc33] at q49) <;> ((try rw [bg_and_w] at q49); exact q49 q1)
                  · try simp (disch := omega) only [bg_w_id, Int.toNat_natCast, rw_land, sh_land, not_true_eq_false, kc0, kc1, kc2, kc3, kc4, kc5, kc6, kc7, kc8, kc9, kc10, kc11, kc12, kc13, kc14, kc15, kc16, kc17, kc18, kc19, kc20, kc21, kc22, kc23, kc24, kc25, kc26, kc27, kc28, kc29, kc30, kc31, kc32, kc33] at q49
                    iterate 5 (refine hX _ ?_; conv => whnf)
                    refine hX _ ?_; conv => whnf
                    refine ⟨fun q58 => ?_, fun q58 => ?_⟩
                    · exfalso
                      (try simp (disch := omega) only [bg_w_id, Int.toNat_natCast, rw_land, sh_land, not_true_eq_false, kc0, kc1, kc2, kc3, kc4, kc5, kc6, kc7, kc8, kc9, kc10, kc11, kc12, kc13, kc14, kc15, kc16, kc17, kc18, kc19, kc20, kc21, kc22, kc23, kc24, kc25, kc26, kc27, kc28, kc29, kc30, kc31, kc32, kc33] at q58) <;> ((try rw [bg_and_w] at q58); exact q58 q2)
                    · try simp (disch := omega) only [bg_w_id, Int.toNat_natCast, rw_land, sh_land, not_true_eq_false, kc0, kc1, kc2, kc3, kc4, kc5, kc6, kc7, kc8, kc9, kc10, kc11, kc12, kc13, kc14, kc15, kc16, kc17, kc18, kc19, kc20, kc21, kc22, kc23, kc24, kc25, kc26, kc27, kc28, kc29, kc30, kc31, kc32, kc33] at q58
                      refine hX _ ?_; conv => whnf
                      refine hX _ ?_; conv => whnf
                      try simp (disch := omega) only [bg_w_id, Int.toNat_natCast, rw_land, sh_land, not_true_eq_false]
                      refine s_mbits (d + 6) a (by omega) _ _ ?_
                      conv => whnf
                      refine hX _ ?_; conv => whnf
                      refine hX _ ?_; conv => whnf
                      refine ⟨fun q67 => ?_, fun q67 => ?_⟩
                      · exfalso
                        (try simp (disch := omega) only [bg_w_id, Int.toNat_natCast, rw_land, sh_land, not_true_eq_false, kc0, kc1, kc2, kc3, kc4, kc5, kc6, kc7, kc8, kc9, kc10, kc11, kc12, kc13, kc14, kc15, kc16, kc17, kc18, kc19, kc20, kc21, kc22, kc23, kc24, kc25, kc26, kc27, kc28, kc29, kc30, kc31, kc32, kc33] at q67) <;> (omega)
                      · try simp (disch := omega) only [bg_w_id, Int.toNat_natCast, rw_land, sh_land, not_true_eq_false, kc0, kc1, kc2, kc3, kc4, kc5, kc6, kc7, kc8, kc9, kc10, kc11, kc12, kc13, kc14, kc15, kc16, kc17, kc18, kc19, kc20, kc21, kc22, kc23, kc24, kc25, kc26, kc27, kc28, kc29, kc30, kc31, kc32, kc33] at q67
                        refine hX _ ?_; conv => whnf
                        refine hX _ ?_; conv => whnf
                        try simp (disch := omega) only [bg_w_id, Int.toNat_natCast, rw_land, sh_land, not_true_eq_false]
                        refine s_mbits (d + 6) b (by omega) _ _ ?_
                        conv => whnf
                        refine hX _ ?_; conv => whnf
                        refine hX _ ?_; conv => whnf
                        refine ⟨fun q76 => ?_, fun q76 => ?_⟩
                        · exfalso
                          (try simp (disch := omega) only [bg_w_id, Int.toNat_natCast, rw_land, sh_land, not_true_eq_false, kc0, kc1, kc2, kc3, kc4, kc5, kc6, kc7, kc8, kc9, kc10, kc11, kc12, kc13, kc14, kc15, kc16, kc17, kc18, kc19, kc20, kc21, kc22, kc23, kc24, kc25, kc26, kc27, kc28, kc29, kc30, kc31, kc32, kc33] at q76) <;> (omega)
                        · try simp (disch := omega) only [bg_w_id, Int.toNat_natCast, rw_land, sh_land, not_true_eq_false, kc0, kc1, kc2, kc3, kc4, kc5, kc6, kc7, kc8, kc9, kc10, kc11, kc12, kc13, kc14, kc15, kc16, kc17, kc18, kc19, kc20, kc21, kc22, kc23, kc24, kc25, kc26, kc27, kc28, kc29, kc30, kc31, kc32, kc33] at q76
                          iterate 3 (refine hX _ ?_; conv => whnf)
                          refine hX _ ?_; conv => whnf
                          exact go
              · iterate 2 (refine hX _ ?_; conv => whnf)
                refine hX _ ?_; conv => whnf
                refine ⟨fun q40 => ?_, fun q40 => ?_⟩
                · exfalso
                  (try simp (disch := omega) only [bg_w_id, Int.toNat_natCast, rw_land, sh_land, not_true_eq_false, kc0, kc1, kc2, kc3, kc4, kc5, kc6, kc7, kc8, kc9, kc10, kc11, kc12, kc13, kc14, kc15, kc16, kc17, kc18, kc19, kc20, kc21, kc22, kc23, kc24, kc25, kc26, kc27, kc28, kc29, kc30, kc31, kc32, kc33] at q40) <;> (omega)
                · try simp (disch := omega) only [bg_w_id, Int.toNat_natCast, rw_land, sh_land, not_true_eq_false, kc0, kc1, kc2, kc3, kc4, kc5, kc6, kc7, kc8, kc9, kc10, kc11, kc12, kc13, kc14, kc15, kc16, kc17, kc18, kc19, kc20, kc21, kc22, kc23, kc24, kc25, kc26, kc27, kc28, kc29, kc30, kc31, kc32, kc33] at q40
                  iterate 5 (refine hX _ ?_; conv => whnf)
                  refine hX _ ?_; conv => whnf
                  refine ⟨fun q49 => ?_, fun q49 => ?_⟩
                  · exfalso
                    (try simp (disch := omega) only [bg_w_id, Int.toNat_natCast, rw_land, sh_land, not_true_eq_false, kc0, kc1, kc2, kc3, kc4, kc5, kc6, kc7, kc8, kc9, kc10, kc11, kc12, kc13, kc14, kc15, kc16, kc17, kc18, kc19, kc20, kc21, kc22, kc23, kc24, kc25, kc26, kc27, kc28, kc29, kc30, kc31, kc32, kc33] at q49) <;> ((try rw [bg_and_w] at q49); exact q49 q1)
                  · try simp (disch := omega) only [bg_w_id, Int.toNat_natCast, rw_land, sh_land, not_true_eq_false, kc0, kc1, kc2, kc3, kc4, kc5, kc6, kc7, kc8, kc9, kc10, kc11, kc12, kc13, kc14, kc15, kc16, kc17, kc18, kc19, kc20, kc21, kc22, kc23, kc24, kc25, kc26, kc27, kc28, kc29, kc30, kc31, kc32, kc33] at q49
                    iterate 5 (refine hX _ ?_; conv => whnf)
                    refine hX _ ?_; conv => whnf
                    refine ⟨fun q58 => ?_, fun q58 => ?_⟩
                    · exfalso
                      (try simp (disch := omega) only [bg_w_id, Int.toNat_natCast, rw_land, sh_land, not_true_eq_false, kc0, kc1, kc2, kc3, kc4, kc5, kc6, kc7, kc8, kc9, kc10, kc11, kc12, kc13, kc14, kc15, kc16, kc17, kc18, kc19, kc20, kc21, kc22, kc23, kc24, kc25, kc26, kc27, kc28, kc29, kc30, kc31, kc32, kc33] at q58) <;> ((try rw [bg_and_w] at q58); exact q58 q2)
                    · try simp (disch := omega) only [bg_w_id, Int.toNat_natCast, rw_land, sh_land, not_true_eq_false, kc0, kc1, kc2, kc3, kc4, kc5, kc6, kc7, kc8, kc9, kc10, kc11, kc12, kc13, kc14, kc15, kc16, kc17, kc18, kc19, kc20, kc21, kc22, kc23, kc24, kc25, kc26, kc27, kc28, kc29, kc30, kc31, kc32, kc33] at q58
                      refine hX _ ?_; conv => whnf
                      refine hX _ ?_; conv => whnf
                      try simp (disch := omega) only [bg_w_id, Int.toNat_natCast, rw_land, sh_land, not_true_eq_false]
                      refine s_mbits (d + 6) a (by omega) _ _ ?_
                      conv => whnf
                      refine hX _ ?_; conv => whnf
                      refine hX _ ?_; conv => whnf
                      refine ⟨fun q67 => ?_, fun q67 => ?_⟩
                      · exfalso
                        (try simp (disch := omega) only [bg_w_id, Int.toNat_natCast, rw_land, sh_land, not_true_eq_false, kc0, kc1, kc2, kc3, kc4, kc5, kc6, kc7, kc8, kc9, kc10, kc11, kc12, kc13, kc14, kc15, kc16, kc17, kc18, kc19, kc20, kc21, kc22, kc23, kc24, kc25, kc26, kc27, kc28, kc29, kc30, kc31, kc32, kc33] at q67) <;> (omega)
                      · try simp (disch := omega) only [bg_w_id, Int.toNat_natCast, rw_land, sh_land, not_true_eq_false, kc0, kc1, kc2, kc3, kc4, kc5, kc6, kc7, kc8, kc9, kc10, kc11, kc12, kc13, kc14, kc15, kc16, kc17, kc18, kc19, kc20, kc21, kc22, kc23, kc24, kc25, kc26, kc27, kc28, kc29, kc30, kc31, kc32, kc33] at q67
                        refine hX _ ?_; conv => whnf
                        refine hX _ ?_; conv => whnf
                        try simp (disch := omega) only [bg_w_id, Int.toNat_natCast, rw_land, sh_land, not_true_eq_false]
                        refine s_mbits (d + 6) b (by omega) _ _ ?_
                        conv => whnf
                        refine hX _ ?_; conv => whnf
                        refine hX _ ?_; conv => whnf
                        refine ⟨fun q76 => ?_, fun q76 => ?_⟩
                        · try simp (disch := omega) only [bg_w_id, Int.toNat_natCast, rw_land, sh_land, not_true_eq_false, kc0, kc1, kc2, kc3, kc4, kc5, kc6, kc7, kc8, kc9, kc10, kc11, kc12, kc13, kc14, kc15, kc16, kc17, kc18, kc19, kc20, kc21, kc22, kc23, kc24, kc25, kc26, kc27, kc28, kc29, kc30, kc31, kc32, kc33] at q76
                          iterate 2 (refine hX _ ?_; conv => whnf)
                          exact next (fun y => q4 y.2.1.2) h2 f2
                        · exfalso
                          (try simp (disch := omega) only [bg_w_id, Int.toNat_natCast, rw_land, sh_land, not_true_eq_false, kc0, kc1, kc2, kc3, kc4, kc5, kc6, kc7, kc8, kc9, kc10, kc11, kc12, kc13, kc14, kc15, kc16, kc17, kc18, kc19, kc20, kc21, kc22, kc23, kc24, kc25, kc26, kc27, kc28, kc29, kc30, kc31, kc32, kc33] at q76) <;> (omega)
            · iterate 2 (refine hX _ ?_; conv => whnf)
              refine hX _ ?_; conv => whnf
              refine ⟨fun q40 => ?_, fun q40 => ?_⟩
              · exfalso
                (try simp (disch := omega) only [bg_w_id, Int.toNat_natCast, rw_land, sh_land, not_true_eq_false, kc0, kc1, kc2, kc3, kc4, kc5, kc6, kc7, kc8, kc9, kc10, kc11, kc12, kc13, kc14, kc15, kc16, kc17, kc18, kc19, kc20, kc21, kc22, kc23, kc24, kc25, kc26, kc27, kc28, kc29, kc30, kc31, kc32, kc33] at q40) <;> (omega)
              · try simp (disch := omega) only [bg_w_id, Int.toNat_natCast, rw_land, sh_land, not_true_eq_false, kc0, kc1, kc2, kc3, kc4, kc5, kc6, kc7, kc8, kc9, kc10, kc11, kc12, kc13, kc14, kc15, kc16, kc17, kc18, kc19, kc20, kc21, kc22, kc23, kc24, kc25, kc26, kc27, kc28, kc29, kc30, kc31, kc32, kc33] at q40
                iterate 5 (refine hX _ ?_; conv => whnf)
                refine hX _ ?_; conv => whnf
                refine ⟨fun q49 => ?_, fun q49 => ?_⟩
                · exfalso
                  (try simp (disch := omega) only [bg_w_id, Int.toNat_natCast, rw_land, sh_land, not_true_eq_false, kc0, kc1, kc2, kc3, kc4, kc5, kc6, kc7, kc8, kc9, kc10, kc11, kc12, kc13, kc14, kc15, kc16, kc17, kc18, kc19, kc20, kc21, kc22, kc23, kc24, kc25, kc26, kc27, kc28, kc29, kc30, kc31, kc32, kc33] at q49) <;> ((try rw [bg_and_w] at q49); exact q49 q1)
                · try simp (disch := omega) only [bg_w_id, Int.toNat_natCast, rw_land, sh_land, not_true_eq_false, kc0, kc1, kc2, kc3, kc4, kc5, kc6, kc7, kc8, kc9, kc10, kc11, kc12, kc13, kc14, kc15, kc16, kc17, kc18, kc19, kc20, kc21, kc22, kc23, kc24, kc25, kc26, kc27, kc28, kc29, kc30, kc31, kc32, kc33] at q49
                  iterate 5 (refine hX _ ?_; conv => whnf)
                  refine hX _ ?_; conv => whnf
                  refine ⟨fun q58 => ?_, fun q58 => ?_⟩
                  · exfalso
                    (try simp (disch := omega) only [bg_w_id, Int.toNat_natCast, rw_land, sh_land, not_true_eq_false, kc0, kc1, kc2, kc3, kc4, kc5, kc6, kc7, kc8, kc9, kc10, kc11, kc12, kc13, kc14, kc15, kc16, kc17, kc18, kc19, kc20, kc21, kc22, kc23, kc24, kc25, kc26, kc27, kc28, kc29, kc30, kc31, kc32, kc33] at q58) <;> ((try rw [bg_and_w] at q58); exact q58 q2)
                  · try simp (disch := omega) only [bg_w_id, Int.toNat_natCast, rw_land, sh_land, not_true_eq_false, kc0, kc1, kc2, kc3, kc4, kc5, kc6, kc7, kc8, kc9, kc10, kc11, kc12, kc13, kc14, kc15, kc16, kc17, kc18, kc19, kc20, kc21, kc22, kc23, kc24, kc25, kc26, kc27, kc28, kc29, kc30, kc31, kc32, kc33] at q58
                    refine hX _ ?_; conv => whnf
                    refine hX _ ?_; conv => whnf
                    try simp (disch := omega) only [bg_w_id, Int.toNat_natCast, rw_land, sh_land, not_true_eq_false]
                    refine s_mbits (d + 6) a (by omega) _ _ ?_
                    conv => whnf
                    refine hX _ ?_; conv => whnf
                    refine hX _ ?_; conv => whnf
                    refine ⟨fun q67 => ?_, fun q67 => ?_⟩
                    · try simp (disch := omega) only [bg_w_id, Int.toNat_natCast, rw_land, sh_land, not_true_eq_false, kc0, kc1, kc2, kc3, kc4, kc5, kc6, kc7, kc8, kc9, kc10, kc11, kc12, kc13, kc14, kc15, kc16, kc17, kc18, kc19, kc20, kc21, kc22, kc23, kc24, kc25, kc26, kc27, kc28, kc29, kc30, kc31, kc32, kc33] at q67
                      iterate 2 (refine hX _ ?_; conv => whnf)
                      exact next (fun y => q3 y.1.2) h2 f2
                    · exfalso
                      (try simp (disch := omega) only [bg_w_id, Int.toNat_natCast, rw_land, sh_land, not_true_eq_false, kc0, kc1, kc2, kc3, kc4, kc5, kc6, kc7, kc8, kc9, kc10, kc11, kc12, kc13, kc14, kc15, kc16, kc17, kc18, kc19, kc20, kc21, kc22, kc23, kc24, kc25, kc26, kc27, kc28, kc29, kc30, kc31, kc32, kc33] at q67) <;> (omega)
          · iterate 2 (refine hX _ ?_; conv => whnf)
            refine hX _ ?_; conv => whnf
            refine ⟨fun q40 => ?_, fun q40 => ?_⟩
            · exfalso
              (try simp (disch := omega) only [bg_w_id, Int.toNat_natCast, rw_land, sh_land, not_true_eq_false, kc0, kc1, kc2, kc3, kc4, kc5, kc6, kc7, kc8, kc9, kc10, kc11, kc12, kc13, kc14, kc15, kc16, kc17, kc18, kc19, kc20, kc21, kc22, kc23, kc24, kc25, kc26, kc27, kc28, kc29, kc30, kc31, kc32, kc33] at q40) <;> (omega)
            · try simp (disch := omega) only [bg_w_id, Int.toNat_natCast, rw_land, sh_land, not_true_eq_false, kc0, kc1, kc2, kc3, kc4, kc5, kc6, kc7, kc8, kc9, kc10, kc11, kc12, kc13, kc14, kc15, kc16, kc17, kc18, kc19, kc20, kc21, kc22, kc23, kc24, kc25, kc26, kc27, kc28, kc29, kc30, kc31, kc32, kc33] at q40
              iterate 5 (refine hX _ ?_; conv => whnf)
              refine hX _ ?_; conv => whnf
              refine ⟨fun q49 => ?_, fun q49 => ?_⟩
              · exfalso
                (try simp (disch := omega) only [bg_w_id, Int.toNat_natCast, rw_land, sh_land, not_true_eq_false, kc0, kc1, kc2, kc3, kc4, kc5, kc6, kc7, kc8, kc9, kc10, kc11, kc12, kc13, kc14, kc15, kc16, kc17, kc18, kc19, kc20, kc21, kc22, kc23, kc24, kc25, kc26, kc27, kc28, kc29, kc30, kc31, kc32, kc33] at q49) <;> ((try rw [bg_and_w] at q49); exact q49 q1)
              · try simp (disch := omega) only [bg_w_id, Int.toNat_natCast, rw_land, sh_land, not_true_eq_false, kc0, kc1, kc2, kc3, kc4, kc5, kc6, kc7, kc8, kc9, kc10, kc11, kc12, kc13, kc14, kc15, kc16, kc17, kc18, kc19, kc20, kc21, kc22, kc23, kc24, kc25, kc26, kc27, kc28, kc29, kc30, kc31, kc32, kc33] at q49
                iterate 5 (refine hX _ ?_; conv => whnf)
                refine hX _ ?_; conv => whnf
                refine ⟨fun q58 => ?_, fun q58 => ?_⟩
                · try simp (disch := omega) only [bg_w_id, Int.toNat_natCast, rw_land, sh_land, not_true_eq_false, kc0, kc1, kc2, kc3, kc4, kc5, kc6, kc7, kc8, kc9, kc10, kc11, kc12, kc13, kc14, kc15, kc16, kc17, kc18, kc19, kc20, kc21, kc22, kc23, kc24, kc25, kc26, kc27, kc28, kc29, kc30, kc31, kc32, kc33] at q58
                  iterate 2 (refine hX _ ?_; conv => whnf)
                  exact next (fun y => q2 y.2.1.1) h2 f2
                · exfalso
                  (try simp (disch := omega) only [bg_w_id, Int.toNat_natCast, rw_land, sh_land, not_true_eq_false, kc0, kc1, kc2, kc3, kc4, kc5, kc6, kc7, kc8, kc9, kc10, kc11, kc12, kc13, kc14, kc15, kc16, kc17, kc18, kc19, kc20, kc21, kc22, kc23, kc24, kc25, kc26, kc27, kc28, kc29, kc30, kc31, kc32, kc33] at q58) <;> ((try rw [bg_and_w] at q58); exact q2 q58)
        · iterate 2 (refine hX _ ?_; conv => whnf)
          refine hX _ ?_; conv => whnf
          refine ⟨fun q40 => ?_, fun q40 => ?_⟩
          · exfalso
            (try simp (disch := omega) only [bg_w_id, Int.toNat_natCast, rw_land, sh_land, not_true_eq_false, kc0, kc1, kc2, kc3, kc4, kc5, kc6, kc7, kc8, kc9, kc10, kc11, kc12, kc13, kc14, kc15, kc16, kc17, kc18, kc19, kc20, kc21, kc22, kc23, kc24, kc25, kc26, kc27, kc28, kc29, kc30, kc31, kc32, kc33] at q40) <;> (omega)
          · try simp (disch := omega) only [bg_w_id, Int.toNat_natCast, rw_land, sh_land, not_true_eq_false, kc0, kc1, kc2, kc3, kc4, kc5, kc6, kc7, kc8, kc9, kc10, kc11, kc12, kc13, kc14, kc15, kc16, kc17, kc18, kc19, kc20, kc21, kc22, kc23, kc24, kc25, kc26, kc27, kc28, kc29, kc30, kc31, kc32, kc33] at q40
            iterate 5 (refine hX _ ?_; conv => whnf)
            refine hX _ ?_; conv => whnf
            refine ⟨fun q49 => ?_, fun q49 => ?_⟩
            · try simp (disch := omega) only [bg_w_id, Int.toNat_natCast, rw_land, sh_land, not_true_eq_false, kc0, kc1, kc2, kc3, kc4, kc5, kc6, kc7, kc8, kc9, kc10, kc11, kc12, kc13, kc14, kc15, kc16, kc17, kc18, kc19, kc20, kc21, kc22, kc23, kc24, kc25, kc26, kc27, kc28, kc29, kc30, kc31, kc32, kc33] at q49
              iterate 2 (refine hX _ ?_; conv => whnf)
              exact next (fun y => q1 y.1.1) h2 f2
            · exfalso
              (try simp (disch := omega) only [bg_w_id, Int.toNat_natCast, rw_land, sh_land, not_true_eq_false, kc0, kc1, kc2, kc3, kc4, kc5, kc6, kc7, kc8, kc9, kc10, kc11, kc12, kc13, kc14, kc15, kc16, kc17, kc18, kc19, kc20, kc21, kc22, kc23, kc24, kc25, kc26, kc27, kc28, kc29, kc30, kc31, kc32, kc33] at q49) <;> ((try rw [bg_and_w] at q49); exact q1 q49)
    have l2 : ∀ k, 1 ≤ k → k ≤ 4 → (∀ k' a' b', rg3 k' a' b' → k' < k → ¬ SUP (b4 h) (tgM h) (tcM h) k' a' b') → (∀ (h2 : bg_G) (j5 : Option bg_V), frS h1 h2 → (∀ a' b', rg3 k a' b' → ¬ SUP (b4 h) (tgM h) (tcM h) k a' b') → X (18, [oR 115, oI (tgM h : Nat), oI (tcM h : Nat), oI ((k : Int) + 1), oI ((16 : Nat) : Int), j5], [], (bg_SH n, h2), (0, 0))) → ∀ a, a ≤ 16 → 1 ≤ a → ∀ (h2 : bg_G) (j5 : Option bg_V), frS h1 h2 → (∀ a' b', rg3 k a' b' → a' < a → ¬ SUP (b4 h) (tgM h) (tcM h) k a' b') → X (26, [oR 115, oI (tgM h : Nat), oI (tcM h : Nat), oI (k : Int), oI (a : Int), j5], [], (bg_SH n, h2), (0, 0)) := by
      intro k k1 k4 hn hnext
      refine lp_up 16 _ ?_ (fun a ha ih => ?_)
      · intro _ h2 j5 f2 hn2
        have := hnext h2 j5 f2 (fun a' b' hr => hn2 a' b' hr hr.2.1.2)
        iterate 2 (refine hX _ ?_; conv => whnf)
        refine hX _ ?_; conv => whnf
        refine ⟨fun q30 => ?_, fun q30 => ?_⟩
        · try simp (disch := omega) only [bg_w_id, Int.toNat_natCast, rw_land, sh_land, not_true_eq_false, kc0, kc1, kc2, kc3, kc4, kc5, kc6, kc7, kc8, kc9, kc10, kc11, kc12, kc13, kc14, kc15, kc16, kc17, kc18, kc19, kc20, kc21, kc22, kc23, kc24, kc25, kc26, kc27, kc28, kc29, kc30, kc31, kc32, kc33] at q30
          iterate 2 (refine hX _ ?_; conv => whnf)
          exact this
        · exfalso
          (try simp (disch := omega) only [bg_w_id, Int.toNat_natCast, rw_land, sh_land, not_true_eq_false, kc0, kc1, kc2, kc3, kc4, kc5, kc6, kc7, kc8, kc9, kc10, kc11, kc12, kc13, kc14, kc15, kc16, kc17, kc18, kc19, kc20, kc21, kc22, kc23, kc24, kc25, kc26, kc27, kc28, kc29, kc30, kc31, kc32, kc33] at q30) <;> (omega)
      · intro ha1 h2 j5 f2 hn2
        have := l3 k a k1 k4 ha1 ha (fun k' a' b' hr y => by
          rcases y with y | ⟨y1, y2⟩
          · exact hn k' a' b' hr y
          · subst y1; exact hn2 a' b' hr y2) (fun h3 f3 hx => ih (by omega) h3 _ f3 (fun a' b' hr y => by
          by_cases e : a' = a
          · subst e; exact hx b' hr
          · exact hn2 a' b' hr (by omega))) 1 (by omega) (by omega) h2 f2 (fun b' x1 x2 => absurd x2 (by omega))
        iterate 2 (refine hX _ ?_; conv => whnf)
        refine hX _ ?_; conv => whnf
        refine ⟨fun q30 => ?_, fun q30 => ?_⟩
        · exfalso
          (try simp (disch := omega) only [bg_w_id, Int.toNat_natCast, rw_land, sh_land, not_true_eq_false, kc0, kc1, kc2, kc3, kc4, kc5, kc6, kc7, kc8, kc9, kc10, kc11, kc12, kc13, kc14, kc15, kc16, kc17, kc18, kc19, kc20, kc21, kc22, kc23, kc24, kc25, kc26, kc27, kc28, kc29, kc30, kc31, kc32, kc33] at q30) <;> (omega)
        · try simp (disch := omega) only [bg_w_id, Int.toNat_natCast, rw_land, sh_land, not_true_eq_false, kc0, kc1, kc2, kc3, kc4, kc5, kc6, kc7, kc8, kc9, kc10, kc11, kc12, kc13, kc14, kc15, kc16, kc17, kc18, kc19, kc20, kc21, kc22, kc23, kc24, kc25, kc26, kc27, kc28, kc29, kc30, kc31, kc32, kc33] at q30
          iterate 2 (refine hX _ ?_; conv => whnf)
          exact this
    have l1 : ∀ k, k ≤ 5 → 1 ≤ k → ∀ (h2 : bg_G) (j4 j5 : Option bg_V), frS h1 h2 → (∀ k' a' b', rg3 k' a' b' → k' < k → ¬ SUP (b4 h) (tgM h) (tcM h) k' a' b') → X (18, [oR 115, oI (tgM h : Nat), oI (tcM h : Nat), oI (k : Int), j4, j5], [], (bg_SH n, h2), (0, 0)) := by
      refine lp_up 5 _ ?_ (fun k hk ih => ?_)
      · intro _ h2 j4 j5 f2 hn
        iterate 2 (refine hX _ ?_; conv => whnf)
        refine hX _ ?_; conv => whnf
        refine ⟨fun q20 => ?_, fun q20 => ?_⟩
        · try simp (disch := omega) only [bg_w_id, Int.toNat_natCast, rw_land, sh_land, not_true_eq_false, kc0, kc1, kc2, kc3, kc4, kc5, kc6, kc7, kc8, kc9, kc10, kc11, kc12, kc13, kc14, kc15, kc16, kc17, kc18, kc19, kc20, kc21, kc22, kc23, kc24, kc25, kc26, kc27, kc28, kc29, kc30, kc31, kc32, kc33] at q20
          refine hX _ ?_; conv => whnf
          refine hX _ ?_; conv => whnf
          exact ⟨by omega, hR0 (fun k a b hr => hn k a b hr (by have := hr.1; omega)) h2 (toP h2 f2)⟩
        · exfalso
          (try simp (disch := omega) only [bg_w_id, Int.toNat_natCast, rw_land, sh_land, not_true_eq_false, kc0, kc1, kc2, kc3, kc4, kc5, kc6, kc7, kc8, kc9, kc10, kc11, kc12, kc13, kc14, kc15, kc16, kc17, kc18, kc19, kc20, kc21, kc22, kc23, kc24, kc25, kc26, kc27, kc28, kc29, kc30, kc31, kc32, kc33] at q20) <;> (omega)
      · intro hk1 h2 j4 j5 f2 hn
        have := l2 k hk1 (by omega) hn (fun h3 j5 f3 hx => ih (by omega) h3 _ j5 f3 (fun k' a' b' hr y => by
          by_cases e : k' = k
          · subst e; exact hx a' b' hr
          · exact hn k' a' b' hr (by omega))) 1 (by omega) (by omega) h2 j5 f2 (fun a' b' hr y => absurd y (by have := hr.2.1; omega))
        iterate 2 (refine hX _ ?_; conv => whnf)
        refine hX _ ?_; conv => whnf
        refine ⟨fun q20 => ?_, fun q20 => ?_⟩
        · exfalso
          (try simp (disch := omega) only [bg_w_id, Int.toNat_natCast, rw_land, sh_land, not_true_eq_false, kc0, kc1, kc2, kc3, kc4, kc5, kc6, kc7, kc8, kc9, kc10, kc11, kc12, kc13, kc14, kc15, kc16, kc17, kc18, kc19, kc20, kc21, kc22, kc23, kc24, kc25, kc26, kc27, kc28, kc29, kc30, kc31, kc32, kc33] at q20) <;> (omega)
        · try simp (disch := omega) only [bg_w_id, Int.toNat_natCast, rw_land, sh_land, not_true_eq_false, kc0, kc1, kc2, kc3, kc4, kc5, kc6, kc7, kc8, kc9, kc10, kc11, kc12, kc13, kc14, kc15, kc16, kc17, kc18, kc19, kc20, kc21, kc22, kc23, kc24, kc25, kc26, kc27, kc28, kc29, kc30, kc31, kc32, kc33] at q20
          iterate 2 (refine hX _ ?_; conv => whnf)
          exact this
    iterate 2 (refine hX _ ?_; conv => whnf)
    refine hX _ ?_; conv => whnf
    try simp (disch := omega) only [bg_w_id, Int.toNat_natCast, rw_land, sh_land, not_true_eq_false]
    refine s_mtoldOnes (d + 6) n 0 (by omega) h1 rl _ ?_
    rw [toldM_0, e121, show tSet (fun k => h 122 k) = tgM h from rfl]
    conv => whnf
    iterate 3 (refine hX _ ?_; conv => whnf)
    refine hX _ ?_; conv => whnf
    try simp (disch := omega) only [bg_w_id, Int.toNat_natCast, rw_land, sh_land, not_true_eq_false]
    refine s_mtoldOnes (d + 6) n 1 (by omega) h1 rl _ ?_
    rw [toldM_1, e122, show tSet (fun k => h 123 k) = tcM h from rfl]
    conv => whnf
    iterate 3 (refine hX _ ?_; conv => whnf)
    exact l1 1 (by omega) (by omega) h1 _ _ (frS_refl h1) (fun k' a' b' hr y => absurd y (by have := hr.1; omega))
  refine hX _ ?_; conv => whnf
  refine hX _ ?_; conv => whnf
  try simp (disch := omega) only [bg_w_id, Int.toNat_natCast, rw_land, sh_land, not_true_eq_false]
  refine s_mLW (d + 5) n h ho hw _ (fun h1 fw => ?_)
  conv => whnf
  exact main h1 fw
theorem s_mcommon (d : Nat) (H : bg_H) (Rt : bg_R) : ∀ x y : Nat, x < 4611686018427387904 → y < 4611686018427387904 → Rt (some (.inr (.inl (Nat.gcd x y : Nat)))) H → bg_Ca bg_MS (d + 1) 176 [vL x, vL y] H Rt := by
  intro x y hx hy hR
  refine bg_ca (cd := cd_X9_common) rfl rfl ?_
  intro X hX
  have l1 : ∀ m b : Nat, b ≤ m → ∀ (a : Nat) (j8 : Option bg_V), a < 4611686018427387904 → b < 4611686018427387904 → Nat.gcd a b = Nat.gcd x y → X (6, [oL (x : Int), none, oL (y : Int), none, oL (a : Int), none, oL (b : Int), none, j8, none], [], H, (0, 0)) := by
    intro m
    induction m with
    | zero =>
      intro b hb a j8 ha hb2 hg
      have b0 : b = 0 := by omega
      subst b0
      rw [Nat.gcd_zero_right] at hg
      subst hg
      iterate 3 (refine hX _ ?_; conv => whnf)
      refine hX _ ?_; conv => whnf
      refine ⟨fun q10 => ?_, fun q10 => ?_⟩
      · try simp (disch := omega) only [bg_w_id, Int.toNat_natCast, rw_land, sh_land, not_true_eq_false, kc0, kc1, kc2, kc3, kc4, kc5, kc6, kc7, kc8, kc9, kc10, kc11, kc12, kc13, kc14, kc15, kc16, kc17, kc18, kc19, kc20, kc21, kc22, kc23, kc24, kc25, kc26, kc27, kc28, kc29, kc30, kc31, kc32, kc33] at q10
        refine hX _ ?_; conv => whnf
        refine hX _ ?_; conv => whnf
        exact hR
      · exfalso
        (try simp (disch := omega) only [bg_w_id, Int.toNat_natCast, rw_land, sh_land, not_true_eq_false, kc0, kc1, kc2, kc3, kc4, kc5, kc6, kc7, kc8, kc9, kc10, kc11, kc12, kc13, kc14, kc15, kc16, kc17, kc18, kc19, kc20, kc21, kc22, kc23, kc24, kc25, kc26, kc27, kc28, kc29, kc30, kc31, kc32, kc33] at q10) <;> ((try rw [bg_Cmp_eq] at q10); (try rw [bg_W_id (by omega) (by omega)] at q10); (try rw [bg_W_id (by omega) (by omega)] at q10); omega)
    | succ m ih =>
      intro b hb a j8 ha hb2 hg
      by_cases b0 : b = 0
      · subst b0
        rw [Nat.gcd_zero_right] at hg
        subst hg
        iterate 3 (refine hX _ ?_; conv => whnf)
        refine hX _ ?_; conv => whnf
        refine ⟨fun q10 => ?_, fun q10 => ?_⟩
        · try simp (disch := omega) only [bg_w_id, Int.toNat_natCast, rw_land, sh_land, not_true_eq_false, kc0, kc1, kc2, kc3, kc4, kc5, kc6, kc7, kc8, kc9, kc10, kc11, kc12, kc13, kc14, kc15, kc16, kc17, kc18, kc19, kc20, kc21, kc22, kc23, kc24, kc25, kc26, kc27, kc28, kc29, kc30, kc31, kc32, kc33] at q10
          refine hX _ ?_; conv => whnf
          refine hX _ ?_; conv => whnf
          exact hR
        · exfalso
          (try simp (disch := omega) only [bg_w_id, Int.toNat_natCast, rw_land, sh_land, not_true_eq_false, kc0, kc1, kc2, kc3, kc4, kc5, kc6, kc7, kc8, kc9, kc10, kc11, kc12, kc13, kc14, kc15, kc16, kc17, kc18, kc19, kc20, kc21, kc22, kc23, kc24, kc25, kc26, kc27, kc28, kc29, kc30, kc31, kc32, kc33] at q10) <;> ((try rw [bg_Cmp_eq] at q10); (try rw [bg_W_id (by omega) (by omega)] at q10); (try rw [bg_W_id (by omega) (by omega)] at q10); omega)
      · have er : bg_Rem (a : Int) (b : Int) = ((a % b : Nat) : Int) := Rem_n ha hb2
        have ml := Nat.mod_lt a (Nat.pos_of_ne_zero b0)
        have hg2 : Nat.gcd b (a % b) = Nat.gcd x y := by rw [Nat.gcd_comm b, ← Nat.gcd_rec, Nat.gcd_comm b a]; exact hg
        have nx := ih (a % b) (by omega) b (oL ((a % b : Nat) : Int)) hb2 (by omega) hg2
        iterate 3 (refine hX _ ?_; conv => whnf)
        refine hX _ ?_; conv => whnf
        refine ⟨fun q10 => ?_, fun q10 => ?_⟩
        · exfalso
          (try simp (disch := omega) only [bg_w_id, Int.toNat_natCast, rw_land, sh_land, not_true_eq_false, kc0, kc1, kc2, kc3, kc4, kc5, kc6, kc7, kc8, kc9, kc10, kc11, kc12, kc13, kc14, kc15, kc16, kc17, kc18, kc19, kc20, kc21, kc22, kc23, kc24, kc25, kc26, kc27, kc28, kc29, kc30, kc31, kc32, kc33] at q10) <;> (rw [bg_Cmp_eq, bg_W_id (by omega) (by omega), bg_W_id (by omega) (by omega)] at q10; omega)
        · try simp (disch := omega) only [bg_w_id, Int.toNat_natCast, rw_land, sh_land, not_true_eq_false, kc0, kc1, kc2, kc3, kc4, kc5, kc6, kc7, kc8, kc9, kc10, kc11, kc12, kc13, kc14, kc15, kc16, kc17, kc18, kc19, kc20, kc21, kc22, kc23, kc24, kc25, kc26, kc27, kc28, kc29, kc30, kc31, kc32, kc33] at q10
          iterate 2 (refine hX _ ?_; conv => whnf)
          refine hX _ ?_; conv => whnf
          refine ⟨by rw [bg_W_id (by omega) (by omega)]; omega, ?_⟩
          rw [er]
          iterate 6 (refine hX _ ?_; conv => whnf)
          exact nx
  iterate 4 (refine hX _ ?_; conv => whnf)
  exact l1 y y (Nat.le_refl y) x none hx hy rfl
theorem s_mlowest (d p w : Nat) (part : Int) (hpt : 0 ≤ part ∧ part ≤ 1) (hw : 0 < w ∧ w < 2 ^ 50) (hp : p < 2 ^ 50) (H : bg_H) (Rt : bg_R) (hR : Rt (some (.inr (.inl (lowA p w part)))) H) : bg_Ca bg_MS (d + 2) 177 [vL p, vL w, vI part] H Rt := by
  have e50 : (2 : Nat) ^ 50 = 1125899906842624 := by decide
  rw [e50] at hw hp
  have gp : 0 < Nat.gcd p w := Nat.gcd_pos_of_pos_right p hw.1
  have gl : Nat.gcd p w ≤ w := Nat.gcd_le_right p hw.1
  have d1 : bg_Div (p : Int) (Nat.gcd p w : Nat) = ((p / Nat.gcd p w : Nat) : Int) := Div_n (by omega) (by omega)
  have d2 : bg_Div (w : Int) (Nat.gcd p w : Nat) = ((w / Nat.gcd p w : Nat) : Int) := Div_n (by omega) (by omega)
  unfold lowA at hR
  refine bg_ca (cd := cd_X9_lowest) rfl rfl ?_
  intro X hX
  by_cases c : part = 0
  · rw [if_pos c] at hR
    iterate 2 (refine hX _ ?_; conv => whnf)
    refine hX _ ?_; conv => whnf
    try simp (disch := omega) only [bg_w_id, Int.toNat_natCast, rw_land, sh_land, not_true_eq_false]
    refine s_mcommon d _ _ w p (by omega) (by omega) ?_
    rw [Nat.gcd_comm w p]
    conv => whnf
    iterate 2 (refine hX _ ?_; conv => whnf)
    refine hX _ ?_; conv => whnf
    refine ⟨fun q9 => ?_, fun q9 => ?_⟩
    · exfalso
      (try simp (disch := omega) only [bg_w_id, Int.toNat_natCast, rw_land, sh_land, not_true_eq_false, kc0, kc1, kc2, kc3, kc4, kc5, kc6, kc7, kc8, kc9, kc10, kc11, kc12, kc13, kc14, kc15, kc16, kc17, kc18, kc19, kc20, kc21, kc22, kc23, kc24, kc25, kc26, kc27, kc28, kc29, kc30, kc31, kc32, kc33] at q9) <;> (omega)
    · try simp (disch := omega) only [bg_w_id, Int.toNat_natCast, rw_land, sh_land, not_true_eq_false, kc0, kc1, kc2, kc3, kc4, kc5, kc6, kc7, kc8, kc9, kc10, kc11, kc12, kc13, kc14, kc15, kc16, kc17, kc18, kc19, kc20, kc21, kc22, kc23, kc24, kc25, kc26, kc27, kc28, kc29, kc30, kc31, kc32, kc33] at q9
      iterate 2 (refine hX _ ?_; conv => whnf)
      refine hX _ ?_; conv => whnf
      refine ⟨by rw [bg_W_id (by omega) (by omega)]; omega, ?_⟩
      rw [d1]
      refine hX _ ?_; conv => whnf
      refine hX _ ?_; conv => whnf
      exact hR
  · rw [if_neg c] at hR
    iterate 2 (refine hX _ ?_; conv => whnf)
    refine hX _ ?_; conv => whnf
    try simp (disch := omega) only [bg_w_id, Int.toNat_natCast, rw_land, sh_land, not_true_eq_false]
    refine s_mcommon d _ _ w p (by omega) (by omega) ?_
    rw [Nat.gcd_comm w p]
    conv => whnf
    iterate 2 (refine hX _ ?_; conv => whnf)
    refine hX _ ?_; conv => whnf
    refine ⟨fun q9 => ?_, fun q9 => ?_⟩
    · try simp (disch := omega) only [bg_w_id, Int.toNat_natCast, rw_land, sh_land, not_true_eq_false, kc0, kc1, kc2, kc3, kc4, kc5, kc6, kc7, kc8, kc9, kc10, kc11, kc12, kc13, kc14, kc15, kc16, kc17, kc18, kc19, kc20, kc21, kc22, kc23, kc24, kc25, kc26, kc27, kc28, kc29, kc30, kc31, kc32, kc33] at q9
      iterate 2 (refine hX _ ?_; conv => whnf)
      refine hX _ ?_; conv => whnf
      refine ⟨by rw [bg_W_id (by omega) (by omega)]; omega, ?_⟩
      rw [d2]
      refine hX _ ?_; conv => whnf
      exact hR
    · exfalso
      (try simp (disch := omega) only [bg_w_id, Int.toNat_natCast, rw_land, sh_land, not_true_eq_false, kc0, kc1, kc2, kc3, kc4, kc5, kc6, kc7, kc8, kc9, kc10, kc11, kc12, kc13, kc14, kc15, kc16, kc17, kc18, kc19, kc20, kc21, kc22, kc23, kc24, kc25, kc26, kc27, kc28, kc29, kc30, kc31, kc32, kc33] at q9) <;> (omega)
