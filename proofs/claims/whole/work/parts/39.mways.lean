/-! the model's ways -/
theorem wf_mem {np : Nat} {A B : Nat → Int} : ∀ (k : Nat) (pl seen : Int) (l : List Nat), l ∈ wf np A B k pl seen → (∀ p, p ∈ l → p < np) ∧ l.length ≤ k ∧ (pl ≠ 7 → 1 ≤ l.length)
  | 0, pl, seen, l, h => by
    unfold wf at h
    split at h
    · rename_i e
      simp at h; subst h; simp [e]
    · simp at h
  | k + 1, pl, seen, l, h => by
    unfold wf at h
    split at h
    · rename_i e
      simp at h; subst h; simp [e]
    · rw [List.mem_flatMap] at h
      obtain ⟨p, hp, h⟩ := h
      rw [List.mem_range] at hp
      split at h
      · rw [List.mem_map] at h
        obtain ⟨l', hl', e⟩ := h
        obtain ⟨i1, i2, i3⟩ := wf_mem k _ _ l' hl'
        subst e
        refine ⟨fun q hq => ?_, by simp; omega, fun _ => by simp⟩
        rcases List.mem_cons.mp hq with e | e
        · omega
        · exact i1 q e
      · simp at h
def lenW (ws : List (List Nat)) (w : Nat) : Nat := (ws[w]?.getD []).length
def ptW (ws : List (List Nat)) (w i : Nat) : Nat := ((ws[w]?.getD [])[i]?).getD 0
def wsG (np : Nat) (A B : Nat → Int) : List (List Nat) := (wf np A B 7 0 1).take 400
theorem wsG_mem {np : Nat} {A B : Nat → Int} {w : Nat} (hw : w < (wsG np A B).length) : ∃ l, (wsG np A B)[w]? = some l ∧ (∀ p, p ∈ l → p < np) ∧ l.length ≤ 7 ∧ 1 ≤ l.length := by
  refine ⟨(wsG np A B)[w], List.getElem?_eq_getElem hw, ?_⟩
  have hm : (wsG np A B)[w] ∈ wf np A B 7 0 1 := List.mem_of_mem_take (List.getElem_mem hw)
  have := wf_mem 7 0 1 _ hm
  exact ⟨this.1, this.2.1, this.2.2 (by omega)⟩
theorem wsG_len (np : Nat) (A B : Nat → Int) : (wsG np A B).length ≤ 400 := List.length_take_le _ _
theorem ptW_some {ws : List (List Nat)} {w : Nat} {l : List Nat} (hl : ws[w]? = some l) : lenW ws w = l.length ∧ ∀ i, i < l.length → l[i]? = some (ptW ws w i) ∧ ptW ws w i ∈ l := by
  unfold lenW ptW
  rw [hl]
  refine ⟨rfl, fun i hi => ?_⟩
  simp [List.getElem?_eq_getElem hi]
theorem tbM_tbl {h : bg_G} {np : Nat} {A B : Nat → Int} (hn : np ≤ 12) (ht : tbM h (wsG np A B)) : tblM h (wsG np A B).length (lenW (wsG np A B)) (ptW (wsG np A B)) := by
  obtain ⟨t1, t2, t3⟩ := ht
  refine ⟨t1, t2, fun w hw => ?_⟩
  obtain ⟨l, e, m1, m2, m3⟩ := wsG_mem hw
  obtain ⟨p1, p2⟩ := ptW_some e
  obtain ⟨q1, q2, q3⟩ := t3 w l e
  rw [p1]
  refine ⟨⟨m3, m2⟩, q2, fun i hi => ?_⟩
  obtain ⟨r1, r2⟩ := p2 i hi
  exact ⟨by have := m1 _ r2; omega, q3 i _ r1⟩
theorem tbC_tbl {h : bg_G} {np : Nat} {A B : Nat → Int} (hn : np ≤ 12) (ht : tbC h (wsG np A B)) : tblC h (wsG np A B).length (lenW (wsG np A B)) (ptW (wsG np A B)) := by
  obtain ⟨⟨t1, t2, t3⟩, -⟩ := ht
  refine ⟨t1, t2, fun w hw => ?_⟩
  obtain ⟨l, e, m1, m2, m3⟩ := wsG_mem hw
  obtain ⟨p1, p2⟩ := ptW_some e
  obtain ⟨q1, q2, q3⟩ := t3 w l e
  rw [p1]
  refine ⟨⟨m3, m2⟩, q2, fun i hi => ?_⟩
  obtain ⟨r1, r2⟩ := p2 i hi
  exact ⟨by have := m1 _ r2; omega, q3 i _ r1⟩
theorem tbC_crT {h : bg_G} {np : Nat} {A B : Nat → Int} (ht : tbC h (wsG np A B)) : crT h (wsG np A B).length (lenW (wsG np A B)) (ptW (wsG np A B)) := by
  obtain ⟨-, t1, t2⟩ := ht
  refine ⟨t1, fun w hw => ?_⟩
  obtain ⟨l, e, m1, m2, m3⟩ := wsG_mem hw
  obtain ⟨p1, p2⟩ := ptW_some e
  obtain ⟨q1, q2⟩ := t2 w l e
  rw [q2, p1]
  unfold kS
  refine sm_congr (fun i hi => ?_)
  rw [(p2 i hi).1]
  rfl
def wsM (h : bg_G) : List (List Nat) := wsG (h 117 0).toNat (fun p => h 118 (7 * p)) (fun p => h 118 (7 * p + 1))
def wayL (h : bg_G) : Prop := h 115 14 = 0 ∨ (h 115 14 = 1 ∧ tbM h (wsM h))
def frW (h h' : bg_G) : Prop := (∀ k, k ≠ 115 → k ≠ 127 → k ≠ 128 → k ≠ 133 → h' k = h k) ∧ (∀ j, j ≠ 14 → j ≠ 15 → h' 115 j = h 115 j) ∧ h' 115 14 = 1 ∧ tbM h' (wsM h')
theorem frW_ws {h h' : bg_G} (hf : frW h h') : wsM h' = wsM h := by
  unfold wsM
  rw [hf.1 117 (by omega) (by omega) (by omega) (by omega), hf.1 118 (by omega) (by omega) (by omega) (by omega)]
theorem frW_ok {h h' : bg_G} (hf : frW h h') (ho : okM h) : okM h' := okM_fr ho (hf.1 _ (by omega) (by omega) (by omega) (by omega)) (hf.1 _ (by omega) (by omega) (by omega) (by omega)) (hf.1 _ (by omega) (by omega) (by omega) (by omega)) (hf.1 _ (by omega) (by omega) (by omega) (by omega)) (hf.1 _ (by omega) (by omega) (by omega) (by omega))
theorem frW_tbl {h h' : bg_G} (hf : frW h h') (ho : okM h) : tblM h' (wsM h).length (lenW (wsM h)) (ptW (wsM h)) := by
  have := hf.2.2.2
  rw [frW_ws hf] at this
  have hn := ho.1.1
  exact tbM_tbl (by omega) this
theorem frW_held {h h' : bg_G} (hf : frW h h') (s : Int) : heldM h' s = heldM h s := heldM_fr (hf.1 _ (by omega) (by omega) (by omega) (by omega))
theorem frW_bear {h h' : bg_G} (hf : frW h h') (s b : Int) (p : Nat) : bearM h' s p b = bearM h s p b := bearM_fr (hf.1 _ (by omega) (by omega) (by omega) (by omega))
theorem frW_g {h h' : bg_G} (hf : frW h h') (s : Int) (len : Nat → Nat) (pt : Nat → Nat → Nat) : gM h' s len pt = gM h s len pt := by
  funext w
  unfold gM
  rw [hf.1 118 (by omega) (by omega) (by omega) (by omega), hf.1 121 (by omega) (by omega) (by omega) (by omega)]
theorem s_mLW (d n : Nat) (h : bg_G) (ho : okM h) (hw : wayL h) (Rt : bg_R) (hR : ∀ h' : bg_G, frW h h' → Rt none (bg_SH n, h')) : bg_Ca bg_MS (d + 2) 154 [vR 115] (bg_SH n, h) Rt := by
  rcases hw with h14 | ⟨h14, ht⟩
  · have hn := ho.1.1
    refine s_mlayWays d n (h 117 0).toNat h ho (by omega) h14 Rt (fun h' f1 f2 f3 f4 => hR h' ⟨f1, f2, f3, ?_⟩)
    unfold wsM
    rw [f1 117 (by omega) (by omega) (by omega) (by omega), f1 118 (by omega) (by omega) (by omega) (by omega)]
    exact f4
  · refine bg_ca (cd := cd_X9_layWays) rfl rfl ?_
    intro X hX
    iterate 2 (refine hX _ ?_; conv => whnf)
    try simp only [kc0, kc1, kc2, kc3, kc4, kc5, kc6, kc7, kc8, kc9, kc10, kc11, kc12, kc13, kc14, kc15, kc16, kc17, kc18, kc19, kc20, kc21, kc22, kc23, kc24, kc25, kc26, kc27, kc28, kc29, kc30, kc31, kc32, kc33]
    refine hX _ ?_; conv => whnf
    refine ⟨fun q4 => ?_, fun q4 => ?_⟩
    · exfalso
      (try simp (disch := omega) only [bg_w_id, Int.toNat_natCast, rw_land, sh_land, not_true_eq_false, kc0, kc1, kc2, kc3, kc4, kc5, kc6, kc7, kc8, kc9, kc10, kc11, kc12, kc13, kc14, kc15, kc16, kc17, kc18, kc19, kc20, kc21, kc22, kc23, kc24, kc25, kc26, kc27, kc28, kc29, kc30, kc31, kc32, kc33] at q4) <;> (omega)
    · try simp (disch := omega) only [bg_w_id, Int.toNat_natCast, rw_land, sh_land, not_true_eq_false, kc0, kc1, kc2, kc3, kc4, kc5, kc6, kc7, kc8, kc9, kc10, kc11, kc12, kc13, kc14, kc15, kc16, kc17, kc18, kc19, kc20, kc21, kc22, kc23, kc24, kc25, kc26, kc27, kc28, kc29, kc30, kc31, kc32, kc33] at q4
      refine hX _ ?_; conv => whnf
      exact hR h ⟨fun _ _ _ _ _ => rfl, fun _ _ _ => rfl, h14, ht⟩
def wayA (ws : List (List Nat)) (w i : Int) : Int := if w < 0 then ws.length else if (ws.length : Int) ≤ w ∨ (lenW ws w.toNat : Int) ≤ i then -4 else if i < 0 then lenW ws w.toNat else ptW ws w.toNat i.toNat
theorem s_mway (d n : Nat) (w i : Int) (hw : i32 w) (hi : i32 i) (h : bg_G) (ho : okM h) (hl : wayL h) (Rt : bg_R) (hR1 : -1 ≤ w → -1 ≤ i → ∀ h' : bg_G, frW h h' → Rt (some (.inl (wayA (wsM h) w i))) (bg_SH n, h')) (hR0 : ¬ (-1 ≤ w ∧ -1 ≤ i) → Rt (some (.inl (-1))) (bg_SH n, h)) : bg_Ca bg_MS (d + 3) 156 [vR 115, vI w, vI i] (bg_SH n, h) Rt := by
  refine bg_ca (cd := cd_X9_way) rfl rfl ?_
  intro X hX
  by_cases c1 : -1 ≤ w ∧ -1 ≤ i
  · have hR1 := hR1 c1.1 c1.2
    unfold wayA at hR1
    by_cases c2 : w < 0
    · iterate 2 (refine hX _ ?_; conv => whnf)
      refine hX _ ?_; conv => whnf
      refine ⟨fun q2 => ?_, fun q2 => ?_⟩
      · exfalso
        (try simp (disch := omega) only [bg_w_id, Int.toNat_natCast, rw_land, sh_land, not_true_eq_false, kc0, kc1, kc2, kc3, kc4, kc5, kc6, kc7, kc8, kc9, kc10, kc11, kc12, kc13, kc14, kc15, kc16, kc17, kc18, kc19, kc20, kc21, kc22, kc23, kc24, kc25, kc26, kc27, kc28, kc29, kc30, kc31, kc32, kc33] at q2) <;> (omega)
      · try simp (disch := omega) only [bg_w_id, Int.toNat_natCast, rw_land, sh_land, not_true_eq_false, kc0, kc1, kc2, kc3, kc4, kc5, kc6, kc7, kc8, kc9, kc10, kc11, kc12, kc13, kc14, kc15, kc16, kc17, kc18, kc19, kc20, kc21, kc22, kc23, kc24, kc25, kc26, kc27, kc28, kc29, kc30, kc31, kc32, kc33] at q2
        iterate 2 (refine hX _ ?_; conv => whnf)
        refine hX _ ?_; conv => whnf
        refine ⟨fun q7 => ?_, fun q7 => ?_⟩
        · try simp (disch := omega) only [bg_w_id, Int.toNat_natCast, rw_land, sh_land, not_true_eq_false, kc0, kc1, kc2, kc3, kc4, kc5, kc6, kc7, kc8, kc9, kc10, kc11, kc12, kc13, kc14, kc15, kc16, kc17, kc18, kc19, kc20, kc21, kc22, kc23, kc24, kc25, kc26, kc27, kc28, kc29, kc30, kc31, kc32, kc33] at q7
          refine hX _ ?_; conv => whnf
          refine hX _ ?_; conv => whnf
          try simp (disch := omega) only [bg_w_id, Int.toNat_natCast, rw_land, sh_land, not_true_eq_false]
          refine s_mLW d n h ho hl _ (fun h' hf => ?_)
          obtain ⟨t1, t2, t3⟩ := frW_tbl hf ho
          have hR1 := hR1 h' hf
          rw [if_pos c2] at hR1
          conv => whnf
          refine hX _ ?_; conv => whnf
          refine hX _ ?_; conv => whnf
          refine ⟨fun q17 => ?_, fun q17 => ?_⟩
          · exfalso
            (try simp (disch := omega) only [bg_w_id, Int.toNat_natCast, rw_land, sh_land, not_true_eq_false, kc0, kc1, kc2, kc3, kc4, kc5, kc6, kc7, kc8, kc9, kc10, kc11, kc12, kc13, kc14, kc15, kc16, kc17, kc18, kc19, kc20, kc21, kc22, kc23, kc24, kc25, kc26, kc27, kc28, kc29, kc30, kc31, kc32, kc33] at q17) <;> (omega)
          · try simp (disch := omega) only [bg_w_id, Int.toNat_natCast, rw_land, sh_land, not_true_eq_false, kc0, kc1, kc2, kc3, kc4, kc5, kc6, kc7, kc8, kc9, kc10, kc11, kc12, kc13, kc14, kc15, kc16, kc17, kc18, kc19, kc20, kc21, kc22, kc23, kc24, kc25, kc26, kc27, kc28, kc29, kc30, kc31, kc32, kc33] at q17
            iterate 2 (refine hX _ ?_; conv => whnf)
            try simp only [kc0, kc1, kc2, kc3, kc4, kc5, kc6, kc7, kc8, kc9, kc10, kc11, kc12, kc13, kc14, kc15, kc16, kc17, kc18, kc19, kc20, kc21, kc22, kc23, kc24, kc25, kc26, kc27, kc28, kc29, kc30, kc31, kc32, kc33]
            refine hX _ ?_; conv => whnf
            rw [← t1] at hR1
            exact hR1
        · exfalso
          (try simp (disch := omega) only [bg_w_id, Int.toNat_natCast, rw_land, sh_land, not_true_eq_false, kc0, kc1, kc2, kc3, kc4, kc5, kc6, kc7, kc8, kc9, kc10, kc11, kc12, kc13, kc14, kc15, kc16, kc17, kc18, kc19, kc20, kc21, kc22, kc23, kc24, kc25, kc26, kc27, kc28, kc29, kc30, kc31, kc32, kc33] at q7) <;> (omega)
    · obtain ⟨v, rfl⟩ : ∃ v : Nat, w = v := ⟨w.toNat, by omega⟩
      by_cases c3 : (v : Int) < (wsM h).length
      · iterate 2 (refine hX _ ?_; conv => whnf)
        refine hX _ ?_; conv => whnf
        refine ⟨fun q2 => ?_, fun q2 => ?_⟩
        · exfalso
          (try simp (disch := omega) only [bg_w_id, Int.toNat_natCast, rw_land, sh_land, not_true_eq_false, kc0, kc1, kc2, kc3, kc4, kc5, kc6, kc7, kc8, kc9, kc10, kc11, kc12, kc13, kc14, kc15, kc16, kc17, kc18, kc19, kc20, kc21, kc22, kc23, kc24, kc25, kc26, kc27, kc28, kc29, kc30, kc31, kc32, kc33] at q2) <;> (omega)
        · try simp (disch := omega) only [bg_w_id, Int.toNat_natCast, rw_land, sh_land, not_true_eq_false, kc0, kc1, kc2, kc3, kc4, kc5, kc6, kc7, kc8, kc9, kc10, kc11, kc12, kc13, kc14, kc15, kc16, kc17, kc18, kc19, kc20, kc21, kc22, kc23, kc24, kc25, kc26, kc27, kc28, kc29, kc30, kc31, kc32, kc33] at q2
          iterate 2 (refine hX _ ?_; conv => whnf)
          refine hX _ ?_; conv => whnf
          refine ⟨fun q7 => ?_, fun q7 => ?_⟩
          · try simp (disch := omega) only [bg_w_id, Int.toNat_natCast, rw_land, sh_land, not_true_eq_false, kc0, kc1, kc2, kc3, kc4, kc5, kc6, kc7, kc8, kc9, kc10, kc11, kc12, kc13, kc14, kc15, kc16, kc17, kc18, kc19, kc20, kc21, kc22, kc23, kc24, kc25, kc26, kc27, kc28, kc29, kc30, kc31, kc32, kc33] at q7
            refine hX _ ?_; conv => whnf
            refine hX _ ?_; conv => whnf
            try simp (disch := omega) only [bg_w_id, Int.toNat_natCast, rw_land, sh_land, not_true_eq_false]
            refine s_mLW d n h ho hl _ (fun h' hf => ?_)
            obtain ⟨t1, t2, t3⟩ := frW_tbl hf ho
            obtain ⟨u1, u2, u3⟩ := t3 v (by omega)
            have hR1 := hR1 h' hf
            rw [if_neg c2, Int.toNat_natCast] at hR1
            conv => whnf
            refine hX _ ?_; conv => whnf
            refine hX _ ?_; conv => whnf
            refine ⟨fun q17 => ?_, fun q17 => ?_⟩
            · try simp (disch := omega) only [bg_w_id, Int.toNat_natCast, rw_land, sh_land, not_true_eq_false, kc0, kc1, kc2, kc3, kc4, kc5, kc6, kc7, kc8, kc9, kc10, kc11, kc12, kc13, kc14, kc15, kc16, kc17, kc18, kc19, kc20, kc21, kc22, kc23, kc24, kc25, kc26, kc27, kc28, kc29, kc30, kc31, kc32, kc33] at q17
              iterate 3 (refine hX _ ?_; conv => whnf)
              try simp only [kc0, kc1, kc2, kc3, kc4, kc5, kc6, kc7, kc8, kc9, kc10, kc11, kc12, kc13, kc14, kc15, kc16, kc17, kc18, kc19, kc20, kc21, kc22, kc23, kc24, kc25, kc26, kc27, kc28, kc29, kc30, kc31, kc32, kc33]
              refine hX _ ?_; conv => whnf
              refine ⟨fun q30 => ?_, fun q30 => ?_⟩
              · exfalso
                (try simp (disch := omega) only [bg_w_id, Int.toNat_natCast, rw_land, sh_land, not_true_eq_false, kc0, kc1, kc2, kc3, kc4, kc5, kc6, kc7, kc8, kc9, kc10, kc11, kc12, kc13, kc14, kc15, kc16, kc17, kc18, kc19, kc20, kc21, kc22, kc23, kc24, kc25, kc26, kc27, kc28, kc29, kc30, kc31, kc32, kc33] at q30) <;> (omega)
              · try simp (disch := omega) only [bg_w_id, Int.toNat_natCast, rw_land, sh_land, not_true_eq_false, kc0, kc1, kc2, kc3, kc4, kc5, kc6, kc7, kc8, kc9, kc10, kc11, kc12, kc13, kc14, kc15, kc16, kc17, kc18, kc19, kc20, kc21, kc22, kc23, kc24, kc25, kc26, kc27, kc28, kc29, kc30, kc31, kc32, kc33] at q30
                iterate 4 (refine hX _ ?_; conv => whnf)
                refine hX _ ?_; conv => whnf
                try (simp (disch := omega) only [bg_w_id, Int.toNat_natCast, rw_land, sh_land, not_true_eq_false]; try conv => whnf)
                refine ⟨by first | omega | (simp (disch := omega) only [bg_w_id, Int.toNat_natCast, rw_land, sh_land, not_true_eq_false]; omega), ?_⟩
                refine hX _ ?_; conv => whnf
                refine ⟨fun q40 => ?_, fun q40 => ?_⟩
                · try simp (disch := omega) only [bg_w_id, Int.toNat_natCast, rw_land, sh_land, not_true_eq_false, kc0, kc1, kc2, kc3, kc4, kc5, kc6, kc7, kc8, kc9, kc10, kc11, kc12, kc13, kc14, kc15, kc16, kc17, kc18, kc19, kc20, kc21, kc22, kc23, kc24, kc25, kc26, kc27, kc28, kc29, kc30, kc31, kc32, kc33] at q40
                  refine hX _ ?_; conv => whnf
                  refine hX _ ?_; conv => whnf
                  refine ⟨fun q47 => ?_, fun q47 => ?_⟩
                  · try simp (disch := omega) only [bg_w_id, Int.toNat_natCast, rw_land, sh_land, not_true_eq_false, kc0, kc1, kc2, kc3, kc4, kc5, kc6, kc7, kc8, kc9, kc10, kc11, kc12, kc13, kc14, kc15, kc16, kc17, kc18, kc19, kc20, kc21, kc22, kc23, kc24, kc25, kc26, kc27, kc28, kc29, kc30, kc31, kc32, kc33] at q47
                    obtain ⟨j, rfl⟩ : ∃ j : Nat, i = j := ⟨i.toNat, by omega⟩
                    obtain ⟨u4, u5⟩ := u3 j (by omega)
                    iterate 7 (refine hX _ ?_; conv => whnf)
                    refine hX _ ?_; conv => whnf
                    try (simp (disch := omega) only [bg_w_id, Int.toNat_natCast, rw_land, sh_land, not_true_eq_false]; try conv => whnf)
                    refine ⟨by first | omega | (simp (disch := omega) only [bg_w_id, Int.toNat_natCast, rw_land, sh_land, not_true_eq_false]; omega), ?_⟩
                    refine hX _ ?_; conv => whnf
                    first
                    | (rw [if_neg (by omega), if_neg (by omega), Int.toNat_natCast, ← u5] at hR1; exact hR1)
                    | (rw [if_neg (by omega), if_pos (by omega), ← u2] at hR1; exact hR1)
                    | (rw [if_pos (by omega)] at hR1; exact hR1)
                  · try simp (disch := omega) only [bg_w_id, Int.toNat_natCast, rw_land, sh_land, not_true_eq_false, kc0, kc1, kc2, kc3, kc4, kc5, kc6, kc7, kc8, kc9, kc10, kc11, kc12, kc13, kc14, kc15, kc16, kc17, kc18, kc19, kc20, kc21, kc22, kc23, kc24, kc25, kc26, kc27, kc28, kc29, kc30, kc31, kc32, kc33] at q47
                    iterate 3 (refine hX _ ?_; conv => whnf)
                    refine hX _ ?_; conv => whnf
                    try (simp (disch := omega) only [bg_w_id, Int.toNat_natCast, rw_land, sh_land, not_true_eq_false]; try conv => whnf)
                    refine ⟨by first | omega | (simp (disch := omega) only [bg_w_id, Int.toNat_natCast, rw_land, sh_land, not_true_eq_false]; omega), ?_⟩
                    refine hX _ ?_; conv => whnf
                    refine hX _ ?_; conv => whnf
                    first
                    | (rw [if_neg (by omega), if_neg (by omega), Int.toNat_natCast, ← u5] at hR1; exact hR1)
                    | (rw [if_neg (by omega), if_pos (by omega), ← u2] at hR1; exact hR1)
                    | (rw [if_pos (by omega)] at hR1; exact hR1)
                · try simp (disch := omega) only [bg_w_id, Int.toNat_natCast, rw_land, sh_land, not_true_eq_false, kc0, kc1, kc2, kc3, kc4, kc5, kc6, kc7, kc8, kc9, kc10, kc11, kc12, kc13, kc14, kc15, kc16, kc17, kc18, kc19, kc20, kc21, kc22, kc23, kc24, kc25, kc26, kc27, kc28, kc29, kc30, kc31, kc32, kc33] at q40
                  refine hX _ ?_; conv => whnf
                  refine hX _ ?_; conv => whnf
                  first
                  | (rw [if_neg (by omega), if_neg (by omega), Int.toNat_natCast, ← u5] at hR1; exact hR1)
                  | (rw [if_neg (by omega), if_pos (by omega), ← u2] at hR1; exact hR1)
                  | (rw [if_pos (by omega)] at hR1; exact hR1)
            · exfalso
              (try simp (disch := omega) only [bg_w_id, Int.toNat_natCast, rw_land, sh_land, not_true_eq_false, kc0, kc1, kc2, kc3, kc4, kc5, kc6, kc7, kc8, kc9, kc10, kc11, kc12, kc13, kc14, kc15, kc16, kc17, kc18, kc19, kc20, kc21, kc22, kc23, kc24, kc25, kc26, kc27, kc28, kc29, kc30, kc31, kc32, kc33] at q17) <;> (omega)
          · exfalso
            (try simp (disch := omega) only [bg_w_id, Int.toNat_natCast, rw_land, sh_land, not_true_eq_false, kc0, kc1, kc2, kc3, kc4, kc5, kc6, kc7, kc8, kc9, kc10, kc11, kc12, kc13, kc14, kc15, kc16, kc17, kc18, kc19, kc20, kc21, kc22, kc23, kc24, kc25, kc26, kc27, kc28, kc29, kc30, kc31, kc32, kc33] at q7) <;> (omega)
      · iterate 2 (refine hX _ ?_; conv => whnf)
        refine hX _ ?_; conv => whnf
        refine ⟨fun q2 => ?_, fun q2 => ?_⟩
        · exfalso
          (try simp (disch := omega) only [bg_w_id, Int.toNat_natCast, rw_land, sh_land, not_true_eq_false, kc0, kc1, kc2, kc3, kc4, kc5, kc6, kc7, kc8, kc9, kc10, kc11, kc12, kc13, kc14, kc15, kc16, kc17, kc18, kc19, kc20, kc21, kc22, kc23, kc24, kc25, kc26, kc27, kc28, kc29, kc30, kc31, kc32, kc33] at q2) <;> (omega)
        · try simp (disch := omega) only [bg_w_id, Int.toNat_natCast, rw_land, sh_land, not_true_eq_false, kc0, kc1, kc2, kc3, kc4, kc5, kc6, kc7, kc8, kc9, kc10, kc11, kc12, kc13, kc14, kc15, kc16, kc17, kc18, kc19, kc20, kc21, kc22, kc23, kc24, kc25, kc26, kc27, kc28, kc29, kc30, kc31, kc32, kc33] at q2
          iterate 2 (refine hX _ ?_; conv => whnf)
          refine hX _ ?_; conv => whnf
          refine ⟨fun q7 => ?_, fun q7 => ?_⟩
          · try simp (disch := omega) only [bg_w_id, Int.toNat_natCast, rw_land, sh_land, not_true_eq_false, kc0, kc1, kc2, kc3, kc4, kc5, kc6, kc7, kc8, kc9, kc10, kc11, kc12, kc13, kc14, kc15, kc16, kc17, kc18, kc19, kc20, kc21, kc22, kc23, kc24, kc25, kc26, kc27, kc28, kc29, kc30, kc31, kc32, kc33] at q7
            refine hX _ ?_; conv => whnf
            refine hX _ ?_; conv => whnf
            try simp (disch := omega) only [bg_w_id, Int.toNat_natCast, rw_land, sh_land, not_true_eq_false]
            refine s_mLW d n h ho hl _ (fun h' hf => ?_)
            obtain ⟨t1, t2, t3⟩ := frW_tbl hf ho
            have hR1 := hR1 h' hf
            rw [if_neg c2, if_pos (by omega)] at hR1
            conv => whnf
            refine hX _ ?_; conv => whnf
            refine hX _ ?_; conv => whnf
            refine ⟨fun q17 => ?_, fun q17 => ?_⟩
            · try simp (disch := omega) only [bg_w_id, Int.toNat_natCast, rw_land, sh_land, not_true_eq_false, kc0, kc1, kc2, kc3, kc4, kc5, kc6, kc7, kc8, kc9, kc10, kc11, kc12, kc13, kc14, kc15, kc16, kc17, kc18, kc19, kc20, kc21, kc22, kc23, kc24, kc25, kc26, kc27, kc28, kc29, kc30, kc31, kc32, kc33] at q17
              iterate 3 (refine hX _ ?_; conv => whnf)
              try simp only [kc0, kc1, kc2, kc3, kc4, kc5, kc6, kc7, kc8, kc9, kc10, kc11, kc12, kc13, kc14, kc15, kc16, kc17, kc18, kc19, kc20, kc21, kc22, kc23, kc24, kc25, kc26, kc27, kc28, kc29, kc30, kc31, kc32, kc33]
              refine hX _ ?_; conv => whnf
              refine ⟨fun q30 => ?_, fun q30 => ?_⟩
              · try simp (disch := omega) only [bg_w_id, Int.toNat_natCast, rw_land, sh_land, not_true_eq_false, kc0, kc1, kc2, kc3, kc4, kc5, kc6, kc7, kc8, kc9, kc10, kc11, kc12, kc13, kc14, kc15, kc16, kc17, kc18, kc19, kc20, kc21, kc22, kc23, kc24, kc25, kc26, kc27, kc28, kc29, kc30, kc31, kc32, kc33] at q30
                refine hX _ ?_; conv => whnf
                refine hX _ ?_; conv => whnf
                exact hR1
              · exfalso
                (try simp (disch := omega) only [bg_w_id, Int.toNat_natCast, rw_land, sh_land, not_true_eq_false, kc0, kc1, kc2, kc3, kc4, kc5, kc6, kc7, kc8, kc9, kc10, kc11, kc12, kc13, kc14, kc15, kc16, kc17, kc18, kc19, kc20, kc21, kc22, kc23, kc24, kc25, kc26, kc27, kc28, kc29, kc30, kc31, kc32, kc33] at q30) <;> (omega)
            · exfalso
              (try simp (disch := omega) only [bg_w_id, Int.toNat_natCast, rw_land, sh_land, not_true_eq_false, kc0, kc1, kc2, kc3, kc4, kc5, kc6, kc7, kc8, kc9, kc10, kc11, kc12, kc13, kc14, kc15, kc16, kc17, kc18, kc19, kc20, kc21, kc22, kc23, kc24, kc25, kc26, kc27, kc28, kc29, kc30, kc31, kc32, kc33] at q17) <;> (omega)
          · exfalso
            (try simp (disch := omega) only [bg_w_id, Int.toNat_natCast, rw_land, sh_land, not_true_eq_false, kc0, kc1, kc2, kc3, kc4, kc5, kc6, kc7, kc8, kc9, kc10, kc11, kc12, kc13, kc14, kc15, kc16, kc17, kc18, kc19, kc20, kc21, kc22, kc23, kc24, kc25, kc26, kc27, kc28, kc29, kc30, kc31, kc32, kc33] at q7) <;> (omega)
  · have hR0 := hR0 c1
    iterate 2 (refine hX _ ?_; conv => whnf)
    refine hX _ ?_; conv => whnf
    refine ⟨fun q2 => ?_, fun q2 => ?_⟩
    · try simp (disch := omega) only [bg_w_id, Int.toNat_natCast, rw_land, sh_land, not_true_eq_false, kc0, kc1, kc2, kc3, kc4, kc5, kc6, kc7, kc8, kc9, kc10, kc11, kc12, kc13, kc14, kc15, kc16, kc17, kc18, kc19, kc20, kc21, kc22, kc23, kc24, kc25, kc26, kc27, kc28, kc29, kc30, kc31, kc32, kc33] at q2
      refine hX _ ?_; conv => whnf
      refine hX _ ?_; conv => whnf
      exact hR0
    · try simp (disch := omega) only [bg_w_id, Int.toNat_natCast, rw_land, sh_land, not_true_eq_false, kc0, kc1, kc2, kc3, kc4, kc5, kc6, kc7, kc8, kc9, kc10, kc11, kc12, kc13, kc14, kc15, kc16, kc17, kc18, kc19, kc20, kc21, kc22, kc23, kc24, kc25, kc26, kc27, kc28, kc29, kc30, kc31, kc32, kc33] at q2
      iterate 2 (refine hX _ ?_; conv => whnf)
      refine hX _ ?_; conv => whnf
      refine ⟨fun q7 => ?_, fun q7 => ?_⟩
      · try simp (disch := omega) only [bg_w_id, Int.toNat_natCast, rw_land, sh_land, not_true_eq_false, kc0, kc1, kc2, kc3, kc4, kc5, kc6, kc7, kc8, kc9, kc10, kc11, kc12, kc13, kc14, kc15, kc16, kc17, kc18, kc19, kc20, kc21, kc22, kc23, kc24, kc25, kc26, kc27, kc28, kc29, kc30, kc31, kc32, kc33] at q7
        exfalso; omega
      · try simp (disch := omega) only [bg_w_id, Int.toNat_natCast, rw_land, sh_land, not_true_eq_false, kc0, kc1, kc2, kc3, kc4, kc5, kc6, kc7, kc8, kc9, kc10, kc11, kc12, kc13, kc14, kc15, kc16, kc17, kc18, kc19, kc20, kc21, kc22, kc23, kc24, kc25, kc26, kc27, kc28, kc29, kc30, kc31, kc32, kc33] at q7
        refine hX _ ?_; conv => whnf
        refine hX _ ?_; conv => whnf
        exact hR0
def thrM (h : bg_G) (held : Int) (w : Nat) : Int := thr 1000 (fun p => bearM h held p 0) (lenW (wsM h) w) (ptW (wsM h) w)
theorem s_mthr (d n : Nat) (held : Int) (w : Nat) (h0 h : bg_G) (ho : okM h0) (hf : frW h0 h) (hw : w < (wsM h0).length) (Rt : bg_R) (hR : Rt (some (.inl (thrM h0 held w))) (bg_SH n, h)) : bg_Ca bg_MS (d + 3) 157 [vR 115, vI held, vI w] (bg_SH n, h) Rt := by
  obtain ⟨t1, t2, t3⟩ := frW_tbl hf ho
  obtain ⟨u1, u2, u3⟩ := t3 w hw
  have ho' := frW_ok hf ho
  refine s_mthroughBy d n w (lenW (wsM h0) w) (ptW (wsM h0) w) held h (fun p hp => bearM_rg ho' hp (by omega)) (by omega) u2 u1.2 u3 Rt ?_
  rw [show (fun p => bearM h held p 0) = (fun p => bearM h0 held p 0) by funext p; exact frW_bear hf _ _ _]
  exact hR
theorem s_mthrough (d n : Nat) (s w : Int) (hs : i32 s) (hw : i32 w) (h : bg_G) (ho : okM h) (hl : wayL h) (Rt : bg_R) (hR1 : okS (h 117 0) (h 119 0) s → 0 ≤ w → ∀ h' : bg_G, frW h h' → Rt (some (.inl (if w < (wsM h).length then thrM h (heldM h s) w.toNat else -4))) (bg_SH n, h')) (hR0 : ¬ (okS (h 117 0) (h 119 0) s ∧ 0 ≤ w) → Rt (some (.inl (-1))) (bg_SH n, h)) : bg_Ca bg_MS (d + 4) 158 [vR 115, vI s, vI w] (bg_SH n, h) Rt := by
  refine bg_ca (cd := cd_X9_through) rfl rfl ?_
  intro X hX
  by_cases c1 : okS (h 117 0) (h 119 0) s
  · by_cases c2 : 0 ≤ w
    · have hR1 := hR1 c1 c2
      obtain ⟨v, rfl⟩ : ∃ v : Nat, w = v := ⟨w.toNat, by omega⟩
      iterate 2 (refine hX _ ?_; conv => whnf)
      refine hX _ ?_; conv => whnf
      try simp (disch := omega) only [bg_w_id, Int.toNat_natCast, rw_land, sh_land, not_true_eq_false]
      refine s_ap_t (d + 2) _ _ _ _ hs c1 ?_
      conv => whnf
      refine hX _ ?_; conv => whnf
      refine ⟨fun q5 => ?_, fun q5 => ?_⟩
      · exfalso
        (try simp (disch := omega) only [bg_w_id, Int.toNat_natCast, rw_land, sh_land, not_true_eq_false, kc0, kc1, kc2, kc3, kc4, kc5, kc6, kc7, kc8, kc9, kc10, kc11, kc12, kc13, kc14, kc15, kc16, kc17, kc18, kc19, kc20, kc21, kc22, kc23, kc24, kc25, kc26, kc27, kc28, kc29, kc30, kc31, kc32, kc33] at q5) <;> (omega)
      · try simp (disch := omega) only [bg_w_id, Int.toNat_natCast, rw_land, sh_land, not_true_eq_false, kc0, kc1, kc2, kc3, kc4, kc5, kc6, kc7, kc8, kc9, kc10, kc11, kc12, kc13, kc14, kc15, kc16, kc17, kc18, kc19, kc20, kc21, kc22, kc23, kc24, kc25, kc26, kc27, kc28, kc29, kc30, kc31, kc32, kc33] at q5
        refine hX _ ?_; conv => whnf
        refine hX _ ?_; conv => whnf
        refine ⟨fun q9 => ?_, fun q9 => ?_⟩
        · try simp (disch := omega) only [bg_w_id, Int.toNat_natCast, rw_land, sh_land, not_true_eq_false, kc0, kc1, kc2, kc3, kc4, kc5, kc6, kc7, kc8, kc9, kc10, kc11, kc12, kc13, kc14, kc15, kc16, kc17, kc18, kc19, kc20, kc21, kc22, kc23, kc24, kc25, kc26, kc27, kc28, kc29, kc30, kc31, kc32, kc33] at q9
          refine hX _ ?_; conv => whnf
          refine hX _ ?_; conv => whnf
          try simp (disch := omega) only [bg_w_id, Int.toNat_natCast, rw_land, sh_land, not_true_eq_false]
          refine s_mLW (d + 1) n h ho hl _ (fun h' hf => ?_)
          obtain ⟨t1, t2, t3⟩ := frW_tbl hf ho
          have hR1 := hR1 h' hf
          conv => whnf
          iterate 3 (refine hX _ ?_; conv => whnf)
          try simp only [kc0, kc1, kc2, kc3, kc4, kc5, kc6, kc7, kc8, kc9, kc10, kc11, kc12, kc13, kc14, kc15, kc16, kc17, kc18, kc19, kc20, kc21, kc22, kc23, kc24, kc25, kc26, kc27, kc28, kc29, kc30, kc31, kc32, kc33]
          refine hX _ ?_; conv => whnf
          refine ⟨fun q23 => ?_, fun q23 => ?_⟩
          · try simp (disch := omega) only [bg_w_id, Int.toNat_natCast, rw_land, sh_land, not_true_eq_false, kc0, kc1, kc2, kc3, kc4, kc5, kc6, kc7, kc8, kc9, kc10, kc11, kc12, kc13, kc14, kc15, kc16, kc17, kc18, kc19, kc20, kc21, kc22, kc23, kc24, kc25, kc26, kc27, kc28, kc29, kc30, kc31, kc32, kc33] at q23
            refine hX _ ?_; conv => whnf
            refine hX _ ?_; conv => whnf
            first
            | (rw [if_pos (by omega)] at hR1; exact hR1)
            | (rw [if_neg (by omega)] at hR1; exact hR1)
          · try simp (disch := omega) only [bg_w_id, Int.toNat_natCast, rw_land, sh_land, not_true_eq_false, kc0, kc1, kc2, kc3, kc4, kc5, kc6, kc7, kc8, kc9, kc10, kc11, kc12, kc13, kc14, kc15, kc16, kc17, kc18, kc19, kc20, kc21, kc22, kc23, kc24, kc25, kc26, kc27, kc28, kc29, kc30, kc31, kc32, kc33] at q23
            iterate 3 (refine hX _ ?_; conv => whnf)
            refine hX _ ?_; conv => whnf
            try simp (disch := omega) only [bg_w_id, Int.toNat_natCast, rw_land, sh_land, not_true_eq_false]
            refine s_mheldBy (d + 1) _ _ _ _ ?_
            rw [frW_held hf]
            conv => whnf
            refine hX _ ?_; conv => whnf
            refine hX _ ?_; conv => whnf
            try simp (disch := omega) only [bg_w_id, Int.toNat_natCast, rw_land, sh_land, not_true_eq_false]
            refine s_mthr d n _ v h h' ho hf (by omega) _ ?_
            conv => whnf
            refine hX _ ?_; conv => whnf
            refine hX _ ?_; conv => whnf
            first
            | (rw [if_pos (by omega)] at hR1; exact hR1)
            | (rw [if_neg (by omega)] at hR1; exact hR1)
        · exfalso
          (try simp (disch := omega) only [bg_w_id, Int.toNat_natCast, rw_land, sh_land, not_true_eq_false, kc0, kc1, kc2, kc3, kc4, kc5, kc6, kc7, kc8, kc9, kc10, kc11, kc12, kc13, kc14, kc15, kc16, kc17, kc18, kc19, kc20, kc21, kc22, kc23, kc24, kc25, kc26, kc27, kc28, kc29, kc30, kc31, kc32, kc33] at q9) <;> (omega)
    · iterate 2 (refine hX _ ?_; conv => whnf)
      refine hX _ ?_; conv => whnf
      try simp (disch := omega) only [bg_w_id, Int.toNat_natCast, rw_land, sh_land, not_true_eq_false]
      refine s_ap_t (d + 2) _ _ _ _ hs c1 ?_
      conv => whnf
      refine hX _ ?_; conv => whnf
      refine ⟨fun q5 => ?_, fun q5 => ?_⟩
      · exfalso
        (try simp (disch := omega) only [bg_w_id, Int.toNat_natCast, rw_land, sh_land, not_true_eq_false, kc0, kc1, kc2, kc3, kc4, kc5, kc6, kc7, kc8, kc9, kc10, kc11, kc12, kc13, kc14, kc15, kc16, kc17, kc18, kc19, kc20, kc21, kc22, kc23, kc24, kc25, kc26, kc27, kc28, kc29, kc30, kc31, kc32, kc33] at q5) <;> (omega)
      · try simp (disch := omega) only [bg_w_id, Int.toNat_natCast, rw_land, sh_land, not_true_eq_false, kc0, kc1, kc2, kc3, kc4, kc5, kc6, kc7, kc8, kc9, kc10, kc11, kc12, kc13, kc14, kc15, kc16, kc17, kc18, kc19, kc20, kc21, kc22, kc23, kc24, kc25, kc26, kc27, kc28, kc29, kc30, kc31, kc32, kc33] at q5
        refine hX _ ?_; conv => whnf
        refine hX _ ?_; conv => whnf
        refine ⟨fun q9 => ?_, fun q9 => ?_⟩
        · exfalso
          (try simp (disch := omega) only [bg_w_id, Int.toNat_natCast, rw_land, sh_land, not_true_eq_false, kc0, kc1, kc2, kc3, kc4, kc5, kc6, kc7, kc8, kc9, kc10, kc11, kc12, kc13, kc14, kc15, kc16, kc17, kc18, kc19, kc20, kc21, kc22, kc23, kc24, kc25, kc26, kc27, kc28, kc29, kc30, kc31, kc32, kc33] at q9) <;> (omega)
        · try simp (disch := omega) only [bg_w_id, Int.toNat_natCast, rw_land, sh_land, not_true_eq_false, kc0, kc1, kc2, kc3, kc4, kc5, kc6, kc7, kc8, kc9, kc10, kc11, kc12, kc13, kc14, kc15, kc16, kc17, kc18, kc19, kc20, kc21, kc22, kc23, kc24, kc25, kc26, kc27, kc28, kc29, kc30, kc31, kc32, kc33] at q9
          refine hX _ ?_; conv => whnf
          refine hX _ ?_; conv => whnf
          exact hR0 (fun e => c2 e.2)
  · iterate 2 (refine hX _ ?_; conv => whnf)
    refine hX _ ?_; conv => whnf
    try simp (disch := omega) only [bg_w_id, Int.toNat_natCast, rw_land, sh_land, not_true_eq_false]
    refine s_ap_f (d + 2) _ _ _ _ hs c1 ?_
    conv => whnf
    refine hX _ ?_; conv => whnf
    refine ⟨fun q5 => ?_, fun q5 => ?_⟩
    · try simp (disch := omega) only [bg_w_id, Int.toNat_natCast, rw_land, sh_land, not_true_eq_false, kc0, kc1, kc2, kc3, kc4, kc5, kc6, kc7, kc8, kc9, kc10, kc11, kc12, kc13, kc14, kc15, kc16, kc17, kc18, kc19, kc20, kc21, kc22, kc23, kc24, kc25, kc26, kc27, kc28, kc29, kc30, kc31, kc32, kc33] at q5
      refine hX _ ?_; conv => whnf
      refine hX _ ?_; conv => whnf
      exact hR0 (fun e => c1 e.1)
    · exfalso
      (try simp (disch := omega) only [bg_w_id, Int.toNat_natCast, rw_land, sh_land, not_true_eq_false, kc0, kc1, kc2, kc3, kc4, kc5, kc6, kc7, kc8, kc9, kc10, kc11, kc12, kc13, kc14, kc15, kc16, kc17, kc18, kc19, kc20, kc21, kc22, kc23, kc24, kc25, kc26, kc27, kc28, kc29, kc30, kc31, kc32, kc33] at q5) <;> (omega)
def gnM (h : bg_G) (held : Int) (w : Nat) : Int := gM h held (lenW (wsM h)) (ptW (wsM h)) w
theorem gnM_rg {h : bg_G} (ho : okM h) {h' : bg_G} (hf : frW h h') (held : Int) {w : Nat} (hw : w < (wsM h).length) : -100000000000000000 ≤ gnM h held w ∧ gnM h held w ≤ 100000000000000000 := by
  have := gM_rg (frW_ok hf ho) (held := held) (frW_tbl hf ho) hw
  rw [frW_g hf] at this
  exact this
theorem s_mgn (d n : Nat) (held : Int) (w : Nat) (h0 h : bg_G) (ho : okM h0) (hf : frW h0 h) (hw : w < (wsM h0).length) (Rt : bg_R) (hR : Rt (some (.inr (.inl (gnM h0 held w)))) (bg_SH n, h)) : bg_Ca bg_MS (d + 2) 159 [vR 115, vI held, vI w] (bg_SH n, h) Rt := by
  obtain ⟨t1, t2, t3⟩ := frW_tbl hf ho
  obtain ⟨u1, u2, u3⟩ := t3 w hw
  refine s_mgainBy d n w (lenW (wsM h0) w) (ptW (wsM h0) w) held h (frW_ok hf ho) (by omega) u2 u1.2 u3 Rt ?_
  have := frW_g hf held (lenW (wsM h0)) (ptW (wsM h0))
  have e := congrFun this w
  unfold gM at e
  rw [e]
  exact hR
theorem s_mgain (d n : Nat) (s w : Int) (hs : i32 s) (hw : i32 w) (h : bg_G) (ho : okM h) (hl : wayL h) (Rt : bg_R) (hR1 : okS (h 117 0) (h 119 0) s → 0 ≤ w → ∀ h' : bg_G, frW h h' → Rt (some (.inr (.inl (if w < (wsM h).length then gnM h (heldM h s) w.toNat else -9223372036854775808)))) (bg_SH n, h')) (hR0 : ¬ (okS (h 117 0) (h 119 0) s ∧ 0 ≤ w) → Rt (some (.inr (.inl (-9223372036854775807)))) (bg_SH n, h)) : bg_Ca bg_MS (d + 4) 160 [vR 115, vI s, vI w] (bg_SH n, h) Rt := by
  refine bg_ca (cd := cd_X9_gain) rfl rfl ?_
  intro X hX
  by_cases c1 : okS (h 117 0) (h 119 0) s
  · by_cases c2 : 0 ≤ w
    · have hR1 := hR1 c1 c2
      obtain ⟨v, rfl⟩ : ∃ v : Nat, w = v := ⟨w.toNat, by omega⟩
      iterate 2 (refine hX _ ?_; conv => whnf)
      refine hX _ ?_; conv => whnf
      try simp (disch := omega) only [bg_w_id, Int.toNat_natCast, rw_land, sh_land, not_true_eq_false]
      refine s_ap_t (d + 2) _ _ _ _ hs c1 ?_
      conv => whnf
      refine hX _ ?_; conv => whnf
      refine ⟨fun q5 => ?_, fun q5 => ?_⟩
      · exfalso
        (try simp (disch := omega) only [bg_w_id, Int.toNat_natCast, rw_land, sh_land, not_true_eq_false, kc0, kc1, kc2, kc3, kc4, kc5, kc6, kc7, kc8, kc9, kc10, kc11, kc12, kc13, kc14, kc15, kc16, kc17, kc18, kc19, kc20, kc21, kc22, kc23, kc24, kc25, kc26, kc27, kc28, kc29, kc30, kc31, kc32, kc33] at q5) <;> (omega)
      · try simp (disch := omega) only [bg_w_id, Int.toNat_natCast, rw_land, sh_land, not_true_eq_false, kc0, kc1, kc2, kc3, kc4, kc5, kc6, kc7, kc8, kc9, kc10, kc11, kc12, kc13, kc14, kc15, kc16, kc17, kc18, kc19, kc20, kc21, kc22, kc23, kc24, kc25, kc26, kc27, kc28, kc29, kc30, kc31, kc32, kc33] at q5
        refine hX _ ?_; conv => whnf
        refine hX _ ?_; conv => whnf
        refine ⟨fun q9 => ?_, fun q9 => ?_⟩
        · try simp (disch := omega) only [bg_w_id, Int.toNat_natCast, rw_land, sh_land, not_true_eq_false, kc0, kc1, kc2, kc3, kc4, kc5, kc6, kc7, kc8, kc9, kc10, kc11, kc12, kc13, kc14, kc15, kc16, kc17, kc18, kc19, kc20, kc21, kc22, kc23, kc24, kc25, kc26, kc27, kc28, kc29, kc30, kc31, kc32, kc33] at q9
          refine hX _ ?_; conv => whnf
          refine hX _ ?_; conv => whnf
          try simp (disch := omega) only [bg_w_id, Int.toNat_natCast, rw_land, sh_land, not_true_eq_false]
          refine s_mLW (d + 1) n h ho hl _ (fun h' hf => ?_)
          obtain ⟨t1, t2, t3⟩ := frW_tbl hf ho
          have hR1 := hR1 h' hf
          conv => whnf
          iterate 3 (refine hX _ ?_; conv => whnf)
          try simp only [kc0, kc1, kc2, kc3, kc4, kc5, kc6, kc7, kc8, kc9, kc10, kc11, kc12, kc13, kc14, kc15, kc16, kc17, kc18, kc19, kc20, kc21, kc22, kc23, kc24, kc25, kc26, kc27, kc28, kc29, kc30, kc31, kc32, kc33]
          refine hX _ ?_; conv => whnf
          refine ⟨fun q25 => ?_, fun q25 => ?_⟩
          · try simp (disch := omega) only [bg_w_id, Int.toNat_natCast, rw_land, sh_land, not_true_eq_false, kc0, kc1, kc2, kc3, kc4, kc5, kc6, kc7, kc8, kc9, kc10, kc11, kc12, kc13, kc14, kc15, kc16, kc17, kc18, kc19, kc20, kc21, kc22, kc23, kc24, kc25, kc26, kc27, kc28, kc29, kc30, kc31, kc32, kc33] at q25
            refine hX _ ?_; conv => whnf
            refine hX _ ?_; conv => whnf
            first
            | (rw [if_pos (by omega)] at hR1; exact hR1)
            | (rw [if_neg (by omega)] at hR1; exact hR1)
          · try simp (disch := omega) only [bg_w_id, Int.toNat_natCast, rw_land, sh_land, not_true_eq_false, kc0, kc1, kc2, kc3, kc4, kc5, kc6, kc7, kc8, kc9, kc10, kc11, kc12, kc13, kc14, kc15, kc16, kc17, kc18, kc19, kc20, kc21, kc22, kc23, kc24, kc25, kc26, kc27, kc28, kc29, kc30, kc31, kc32, kc33] at q25
            iterate 3 (refine hX _ ?_; conv => whnf)
            refine hX _ ?_; conv => whnf
            try simp (disch := omega) only [bg_w_id, Int.toNat_natCast, rw_land, sh_land, not_true_eq_false]
            refine s_mheldBy (d + 1) _ _ _ _ ?_
            rw [frW_held hf]
            conv => whnf
            refine hX _ ?_; conv => whnf
            refine hX _ ?_; conv => whnf
            try simp (disch := omega) only [bg_w_id, Int.toNat_natCast, rw_land, sh_land, not_true_eq_false]
            refine s_mgn (d + 1) n _ v h h' ho hf (by omega) _ ?_
            conv => whnf
            refine hX _ ?_; conv => whnf
            refine hX _ ?_; conv => whnf
            first
            | (rw [if_pos (by omega)] at hR1; exact hR1)
            | (rw [if_neg (by omega)] at hR1; exact hR1)
        · exfalso
          (try simp (disch := omega) only [bg_w_id, Int.toNat_natCast, rw_land, sh_land, not_true_eq_false, kc0, kc1, kc2, kc3, kc4, kc5, kc6, kc7, kc8, kc9, kc10, kc11, kc12, kc13, kc14, kc15, kc16, kc17, kc18, kc19, kc20, kc21, kc22, kc23, kc24, kc25, kc26, kc27, kc28, kc29, kc30, kc31, kc32, kc33] at q9) <;> (omega)
    · iterate 2 (refine hX _ ?_; conv => whnf)
      refine hX _ ?_; conv => whnf
      try simp (disch := omega) only [bg_w_id, Int.toNat_natCast, rw_land, sh_land, not_true_eq_false]
      refine s_ap_t (d + 2) _ _ _ _ hs c1 ?_
      conv => whnf
      refine hX _ ?_; conv => whnf
      refine ⟨fun q5 => ?_, fun q5 => ?_⟩
      · exfalso
        (try simp (disch := omega) only [bg_w_id, Int.toNat_natCast, rw_land, sh_land, not_true_eq_false, kc0, kc1, kc2, kc3, kc4, kc5, kc6, kc7, kc8, kc9, kc10, kc11, kc12, kc13, kc14, kc15, kc16, kc17, kc18, kc19, kc20, kc21, kc22, kc23, kc24, kc25, kc26, kc27, kc28, kc29, kc30, kc31, kc32, kc33] at q5) <;> (omega)
      · try simp (disch := omega) only [bg_w_id, Int.toNat_natCast, rw_land, sh_land, not_true_eq_false, kc0, kc1, kc2, kc3, kc4, kc5, kc6, kc7, kc8, kc9, kc10, kc11, kc12, kc13, kc14, kc15, kc16, kc17, kc18, kc19, kc20, kc21, kc22, kc23, kc24, kc25, kc26, kc27, kc28, kc29, kc30, kc31, kc32, kc33] at q5
        refine hX _ ?_; conv => whnf
        refine hX _ ?_; conv => whnf
        refine ⟨fun q9 => ?_, fun q9 => ?_⟩
        · exfalso
          (try simp (disch := omega) only [bg_w_id, Int.toNat_natCast, rw_land, sh_land, not_true_eq_false, kc0, kc1, kc2, kc3, kc4, kc5, kc6, kc7, kc8, kc9, kc10, kc11, kc12, kc13, kc14, kc15, kc16, kc17, kc18, kc19, kc20, kc21, kc22, kc23, kc24, kc25, kc26, kc27, kc28, kc29, kc30, kc31, kc32, kc33] at q9) <;> (omega)
        · try simp (disch := omega) only [bg_w_id, Int.toNat_natCast, rw_land, sh_land, not_true_eq_false, kc0, kc1, kc2, kc3, kc4, kc5, kc6, kc7, kc8, kc9, kc10, kc11, kc12, kc13, kc14, kc15, kc16, kc17, kc18, kc19, kc20, kc21, kc22, kc23, kc24, kc25, kc26, kc27, kc28, kc29, kc30, kc31, kc32, kc33] at q9
          refine hX _ ?_; conv => whnf
          refine hX _ ?_; conv => whnf
          exact hR0 (fun e => c2 e.2)
  · iterate 2 (refine hX _ ?_; conv => whnf)
    refine hX _ ?_; conv => whnf
    try simp (disch := omega) only [bg_w_id, Int.toNat_natCast, rw_land, sh_land, not_true_eq_false]
    refine s_ap_f (d + 2) _ _ _ _ hs c1 ?_
    conv => whnf
    refine hX _ ?_; conv => whnf
    refine ⟨fun q5 => ?_, fun q5 => ?_⟩
    · try simp (disch := omega) only [bg_w_id, Int.toNat_natCast, rw_land, sh_land, not_true_eq_false, kc0, kc1, kc2, kc3, kc4, kc5, kc6, kc7, kc8, kc9, kc10, kc11, kc12, kc13, kc14, kc15, kc16, kc17, kc18, kc19, kc20, kc21, kc22, kc23, kc24, kc25, kc26, kc27, kc28, kc29, kc30, kc31, kc32, kc33] at q5
      refine hX _ ?_; conv => whnf
      refine hX _ ?_; conv => whnf
      exact hR0 (fun e => c1 e.1)
    · exfalso
      (try simp (disch := omega) only [bg_w_id, Int.toNat_natCast, rw_land, sh_land, not_true_eq_false, kc0, kc1, kc2, kc3, kc4, kc5, kc6, kc7, kc8, kc9, kc10, kc11, kc12, kc13, kc14, kc15, kc16, kc17, kc18, kc19, kc20, kc21, kc22, kc23, kc24, kc25, kc26, kc27, kc28, kc29, kc30, kc31, kc32, kc33] at q5) <;> (omega)
theorem s_melse (d n : Nat) (h : bg_G) (Rt : bg_R) (hR : Rt (some (.inr (.inl (h 121 2 * 100000000000000)))) (bg_SH n, h)) (hr : 0 ≤ h 121 2 ∧ h 121 2 ≤ 999) : bg_Ca bg_MS (d + 1) 162 [vR 115] (bg_SH n, h) Rt := by
  refine bg_ca (cd := cd_X9_elseParts) rfl rfl ?_
  intro X hX
  iterate 3 (refine hX _ ?_; conv => whnf)
  refine hX _ ?_; conv => whnf
  try (simp (disch := omega) only [bg_w_id, Int.toNat_natCast, rw_land, sh_land, not_true_eq_false]; try conv => whnf)
  refine ⟨by first | omega | (simp (disch := omega) only [bg_w_id, Int.toNat_natCast, rw_land, sh_land, not_true_eq_false]; omega), ?_⟩
  iterate 3 (refine hX _ ?_; conv => whnf)
  try simp (disch := omega) only [bg_w_id, Int.toNat_natCast, rw_land, sh_land, not_true_eq_false]
  refine hX _ ?_; conv => whnf
  exact hR
