theorem ag_best {h h' : bg_G} (a : ag0 h h') (hn : h 117 0 ≤ 12) (c : Int) : bestM h' c (setsM h') = bestM h c (setsM h) := by
  unfold bestM
  rw [ag_sets a, a.1, a.2.1, show (fun s : Nat => mostM h' s) = fun s : Nat => mostM h s from funext (fun s => ag_most a hn _)]
  exact bsF_congr _ (fun s hs => by rw [ag_cost a])
theorem ag_wg {h h' : bg_G} (a : ag0 h h') (hn : h 117 0 ≤ 12) (x y s : Int) : wgM h' x y s = wgM h x y s := by
  unfold wgM waitM
  rw [ag_most a hn, ag_held a, sm_congr (n := 12) (f := fun i => bt (heldM h s) i * h' 118 (7 * i + 6)) (g := fun i => bt (heldM h s) i * h 118 (7 * i + 6)) (fun i hi => by show _ * _ = _ * _; rw [a.2.2.1 _ (by omega) (by omega)])]
theorem ag_wd {h h' : bg_G} (a : ag0 h h') (hn : h 117 0 ≤ 12) (x y : Int) : wdM h' x y (setsM h') = wdM h x y (setsM h) := by
  unfold wdM
  rw [ag_sets a, a.1, a.2.1, a.2.2.2.2 0 (by omega) (by omega), show (fun s : Nat => wgM h' x y s) = fun s : Nat => wgM h x y s from funext (fun s => ag_wg a hn x y _)]
  exact bsF_congr _ (fun s hs => by rw [ag_cost a])
theorem fwF_congr {ok ok' : Nat → Prop} [DecidablePred ok] [DecidablePred ok'] {v : Nat → Int} : ∀ n, (∀ s, s < n → (ok s ↔ ok' s)) → fwF ok v n = fwF ok' v n
  | 0, _ => rfl
  | n + 1, hh => by
    have ih := fwF_congr (v := v) n (fun s hs => hh s (by omega))
    have e : fwF ok v (n + 1) = if ok n then (if fwF ok v n = -4 ∨ v n < fwF ok v n then v n else fwF ok v n) else fwF ok v n := rfl
    have e' : fwF ok' v (n + 1) = if ok' n then (if fwF ok' v n = -4 ∨ v n < fwF ok' v n then v n else fwF ok' v n) else fwF ok' v n := rfl
    rw [e, e', ih]
    have := hh n (by omega)
    by_cases c : ok n
    · rw [if_pos c, if_pos (this.1 c)]
    · rw [if_neg c, if_neg (fun x => c (this.2 x))]
theorem ag_few {h h' : bg_G} (a : ag0 h h') (hn : h 117 0 ≤ 12) (l : Int) : fewM h' l (setsM h') = fewM h l (setsM h) := by
  unfold fewM
  rw [ag_sets a, a.1, a.2.1, show (fun s : Nat => costM h' s) = fun s : Nat => costM h s from funext (fun s => ag_cost a _)]
  exact fwF_congr _ (fun s hs => by rw [ag_most a hn])
theorem fr45_ag {h h' : bg_G} (f : fr45 h h') : ag0 h h' := ag0_fr (f _ (by omega)) (f _ (by omega)) (f _ (by omega)) (f _ (by omega)) (f _ (by omega))
theorem frM_ag {h h' : bg_G} (f : frM h h') : ag0 h h' := ag0_fr (f.1 _ (by omega) (by omega) (by omega) (by omega) (by omega)) (f.1 _ (by omega) (by omega) (by omega) (by omega) (by omega)) (f.1 _ (by omega) (by omega) (by omega) (by omega) (by omega)) (f.1 _ (by omega) (by omega) (by omega) (by omega) (by omega)) (f.1 _ (by omega) (by omega) (by omega) (by omega) (by omega))
/-- the plans are made ready -/
theorem INV_P {h h' : bg_G} (hI : INV h) (f : fr45 h h') (e7 : h' 46 7 = 1) (hp : PLN h h') (hq : PP h') : INV h' := by
  have r := inv_REL hI
  have hn := r.2.1.1.1
  have a := fr45_ag f
  exact INV_soft hI ⟨fun k hk => by unfold scr at hk; exact f k (by omega), fun j hj => by rw [f 3 (by omega)], fun j j1 j2 j3 j4 j5 j6 j7 => by rw [f 115 (by omega)], b012_fr (fun k a b => f k (by omega))⟩ (rgB_fr hI.2.2.1.2.2.2 (f _ (by omega)) (f _ (by omega))) (Or.inr ⟨e7, ag_PLN a hn.2 hp⟩) hq (ag_lie a hn.2 (by rw [f 115 (by omega)]) (f _ (by omega)) hI.2.2.2.2.2.1.2.2.1) (ag_way a hn.2 (by rw [f 115 (by omega)]) (by rw [f 115 (by omega)]) (f _ (by omega)) (f _ (by omega)) (inv_way hI))
theorem fw_ag {h h' : bg_G} (f : fr41w h h') : ag0 h h' := ag0_fr (f _ (by omega)) (f _ (by omega)) (f _ (by omega)) (f _ (by omega)) (f _ (by omega))
/-- what pays least has been looked for -/
theorem INV_P0 {h h' : bg_G} (hI : INV h) (fp : frP h h' (wsM h).length) (e7 : h' 46 7 = 1) (hp : PLN h h') (hq : PP h') : INV h' := by
  have r := inv_REL hI
  have hn := r.2.1.1.1
  obtain ⟨f, f41, fh⟩ := fp
  have a := fw_ag f
  have tb : tbC h' (wsM h') := by
    rw [ag_ws a hn.2]
    obtain ⟨⟨t1, t2, t3⟩, t4, t5⟩ := hI.2.2.2.2.2.1.1.2
    refine ⟨⟨by rw [f41 5 (by omega)]; exact t1, t2, fun w l hl => ?_⟩, fh, fun w l hl => ?_⟩
    · rw [f 43 (by omega), f 42 (by omega)]
      exact t3 w l hl
    · obtain ⟨c1, c2⟩ := t5 w l hl
      exact ⟨c1, by rw [f 44 (by omega), c2, kS_fr c1 (fun k x y => f k (by omega))]⟩
  exact INV_soft0 hI (fun k hk h4 => by unfold scr at hk; exact f k (by omega)) (fun j hj => by rw [f 3 (by omega)]) (fun j j1 j2 j3 j4 j5 j6 j7 => by rw [f 115 (by omega)]) (b012_fr (fun k a b => f k (by omega))) tb (rgB_fr hI.2.2.1.2.2.2 (f _ (by omega)) (f _ (by omega))) (Or.inr ⟨e7, ag_PLN a hn.2 hp⟩) hq (ag_lie a hn.2 (by rw [f 115 (by omega)]) (f _ (by omega)) hI.2.2.2.2.2.1.2.2.1) (ag_way a hn.2 (by rw [f 115 (by omega)]) (by rw [f 115 (by omega)]) (f _ (by omega)) (f _ (by omega)) (inv_way hI))
/-- the model's mosts may lie -/
theorem INV_M {h h' : bg_G} (hI : INV h) (f : frM h h') : INV h' := by
  have r := inv_REL hI
  have hn := r.2.1.1.1
  have a := frM_ag f
  have e := f.1
  exact INV_soft hI ⟨fun k hk => by unfold scr at hk; exact e k (by omega) (by omega) (by omega) (by omega) (by omega), fun j hj => by rw [e 3 (by omega) (by omega) (by omega) (by omega) (by omega)], fun j j1 j2 j3 j4 j5 j6 j7 => f.2.1 j j1 j5, b012_fr (fun k a b => e k (by omega) (by omega) (by omega) (by omega) (by omega))⟩ (rgB_fr hI.2.2.1.2.2.2 (e _ (by omega) (by omega) (by omega) (by omega) (by omega)) (e _ (by omega) (by omega) (by omega) (by omega) (by omega))) (ag_PL a hn.2 (fun k a b => e k (by omega) (by omega) (by omega) (by omega) (by omega)) (inv_PL hI)) (ag_PP a r.2.1 (by rw [e 46 (by omega) (by omega) (by omega) (by omega) (by omega)]) (by rw [e 46 (by omega) (by omega) (by omega) (by omega) (by omega)]) (inv_PP hI)) f.2.2 (ag_way a hn.2 (f.2.1 14 (by omega) (by omega)) (f.2.1 15 (by omega) (by omega)) (e _ (by omega) (by omega) (by omega) (by omega) (by omega)) (e _ (by omega) (by omega) (by omega) (by omega) (by omega)) (inv_way hI))
theorem op_best (n : Nat) (h : bg_G) (hI : INV h) (c w : Int) (hc : i32 c) (hw : i32 w) : OPI n 5 88 [vR 2, vI c, vI w] 6 147 [vR 115, vI c, vI w] h := by
  intro d Rt k
  have r := inv_REL hI
  have hn := r.2.1.1.1
  refine s_cbest d n c w hc hw h r (inv_sv hI) (inv_PL hI) Rt (fun c1 c2 h1 f1 f2 f3 f4 f5 => k _ _ (fun d2 R2 q => ?_)) (fun cc => k _ _ (fun d2 R2 q => ?_))
  · have a := fr45_ag f1
    have hI1 := INV_P hI f1 f2 f5 (ag_PP a r.2.1 f3 f4 (inv_PP hI))
    refine s_mbest d2 n c w hc hw h1 (inv_wf hI1) R2 (fun _ _ h2 g => ?_) (fun cc => absurd ⟨c1, c2⟩ cc)
    have q := q h2 (INV_M hI1 g)
    rw [ag_best a hn.2, ag_most a hn.2, ag_cost a]
    exact q
  · exact s_mbest d2 n c w hc hw h (inv_wf hI) R2 (fun x y => absurd ⟨x, y⟩ cc) (fun _ => q h hI)
theorem op_more (n : Nat) (h : bg_G) (hI : INV h) : OPI n 5 90 [vR 2] 6 149 [vR 115] h := by
  intro d Rt k
  have r := inv_REL hI
  have hn := r.2.1.1.1
  refine s_cmore d n h r (inv_sv hI) (inv_PL hI) Rt (fun h1 f1 f2 f3 f4 f5 => k _ _ (fun d2 R2 q => ?_))
  have a := fr45_ag f1
  have hI1 := INV_P hI f1 f2 f5 (ag_PP a r.2.1 f3 f4 (inv_PP hI))
  refine s_mmore d2 n h1 (inv_wf hI1) R2 (fun h2 g => ?_)
  have q := q h2 (INV_M hI1 g)
  rw [a.2.2.2.2 0 (by omega) (by omega), ag_best a hn.2, ag_best a hn.2, ag_most a hn.2, ag_most a hn.2]
  exact q
theorem op_fewest (n : Nat) (h : bg_G) (hI : INV h) (l : Int) (hl : i32 l) : OPI n 5 89 [vR 2, vI l] 5 148 [vR 115, vI l] h := by
  intro d Rt k
  have r := inv_REL hI
  have hn := r.2.1.1.1
  refine s_cfewest d n l hl h r (inv_sv hI) (inv_PL hI) Rt (fun c1 h1 f1 f2 f3 f4 f5 => k _ _ (fun d2 R2 q => ?_)) (fun cc => k _ _ (fun d2 R2 q => ?_))
  · have a := fr45_ag f1
    have hI1 := INV_P hI f1 f2 f5 (ag_PP a r.2.1 f3 f4 (inv_PP hI))
    refine s_mfewest d2 n l hl h1 (inv_wf hI1) R2 (fun _ h2 g => ?_) (fun cc => absurd c1 cc)
    have q := q h2 (INV_M hI1 g)
    rw [ag_few a hn.2]
    exact q
  · exact s_mfewest d2 n l hl h (inv_wf hI) R2 (fun x => absurd x cc) (fun _ => q h hI)
theorem op_weighed (n : Nat) (h : bg_G) (hI : INV h) (x y w : Int) (hx : i32 x) (hy : i32 y) (hw : i32 w) : OPI n 5 92 [vR 2, vI x, vI y, vI w] 6 152 [vR 115, vI x, vI y, vI w] h := by
  intro d Rt k
  have r := inv_REL hI
  have hn := r.2.1.1.1
  refine s_cweighed d n x y w hx hy hw h r (inv_sv hI) (inv_PL hI) Rt (fun c1 c2 c3 h1 f1 f2 f3 f4 f5 => k _ _ (fun d2 R2 q => ?_)) (fun cc => k _ _ (fun d2 R2 q => ?_))
  · have a := fr45_ag f1
    have hI1 := INV_P hI f1 f2 f5 (ag_PP a r.2.1 f3 f4 (inv_PP hI))
    refine s_mweighed d2 n x y w hx hy hw h1 (inv_wf hI1) R2 (fun _ _ _ h2 g => ?_) (fun cc => absurd ⟨c1, c2, c3⟩ cc)
    have q := q h2 (INV_M hI1 g)
    rw [ag_wd a hn.2, ag_wg a hn.2]
    exact q
  · exact s_mweighed d2 n x y w hx hy hw h (inv_wf hI) R2 (fun x1 x2 x3 => absurd ⟨x1, x2, x3⟩ cc) (fun _ => q h hI)
theorem op_leastPay (n : Nat) (h : bg_G) (hI : INV h) : OPI n 5 97 [vR 2] 4 164 [vR 115] h := by
  intro d Rt k
  have r := inv_REL hI
  have hn := r.2.1.1.1
  refine s_cleastPay d n h r (inv_sv hI) (inv_PL hI) (inv_PP hI) (inv_tbl hI) (inv_cr hI) Rt (fun h1 f1 f2 f3 f4 f5 => k _ _ (fun d2 R2 q => ?_))
  have a := fw_ag f1.1
  have hI1 := INV_P0 hI f1 f2 f5 (Or.inr ⟨f3, by rw [ag_lp a r.2.1]; exact f4⟩)
  refine s_mleastPay d2 n h1 (inv_wf hI1) (inv_way hI1) R2 (fun h2 h3 g1 g2 => ?_)
  have hI2 := INV_W hI1 g1
  have hI3 : INV h3 := INV_s1 hI2 ⟨fun k hk => by unfold scr at hk; exact g2 k (by omega), fun j hj => by rw [g2 3 (by omega)], fun j j1 j2 j3 j4 j5 j6 j7 => by rw [g2 115 (by omega)], b012_fr (fun k a b => g2 k (by omega))⟩ (rgB_fr hI2.2.2.1.2.2.2 (g2 _ (by omega)) (g2 _ (by omega))) (fun k a b => g2 k (by omega)) (by rw [g2 115 (by omega)]) (by rw [g2 115 (by omega)]) (by rw [g2 115 (by omega)]) (g2 _ (by omega)) (g2 _ (by omega)) (g2 _ (by omega))
  rw [ag_lp a r.2.1]
  exact q h3 hI3
/-- a change that leaves lands, books, store and the like alone -/
theorem INV_x {h h' : bg_G} (hI : INV h) (e : ∀ k, k ≠ 3 → k ≠ 4 → k ≠ 54 → k ≠ 55 → k ≠ 73 → k ≠ 74 → k ≠ 115 → k ≠ 116 → k ≠ 122 → k ≠ 123 → k ≠ 124 → k ≠ 125 → h' k = h k) (e4 : ∀ j, j ≠ 0 → h' 115 j = h 115 j) (hl : ∀ D, BK h 22 54 55 0 D → LOT h' 0 54 55 D) (hk : ∀ j, 4 ≤ j → h' 122 j = h 122 j ∧ h' 123 j = h 123 j) (ht : TXT h') (hw : ROW h') : INV h' := by
  have r := inv_REL hI
  have hn := r.2.1.1.1
  obtain ⟨⟨D, b⟩, ⟨q, k1, k2, k3, k4, k5⟩, rg, _, _, c, l⟩ := id hI
  have ee : ∀ k, (k ≤ 2 ∨ (5 ≤ k ∧ k ≤ 53) ∨ (56 ≤ k ∧ k ≤ 72) ∨ (75 ≤ k ∧ k ≤ 114) ∨ (117 ≤ k ∧ k ≤ 121) ∨ 126 ≤ k) → h' k = h k := fun k hk => e k (by omega) (by omega) (by omega) (by omega) (by omega) (by omega) (by omega) (by omega) (by omega) (by omega) (by omega) (by omega)
  have f : b012 h h' := b012_fr (fun k a b => ee k (by omega))
  have a := b012_0 f
  have lk : ∀ B g c D, 1 ≤ B → h' g = h g → h' c = h c → LOT h B g c D → LOT h' B g c D := fun B g c D hB eg ec hl k hk' => by
    rw [eg, ec, (hk (4 * B + k) (by omega)).1, (hk (4 * B + k) (by omega)).2]
    exact hl k hk'
  refine ⟨⟨D, b.1, holdC_fr b.2.1 (fun k a b => ee k (by omega)), hM_012 f (by omega) b.1 b.2.2.1, hl D b⟩, ⟨q, k1, by rw [ee 2 (by omega)]; exact k2, by rw [e4 9 (by omega)]; exact k3, fun x => ?_, fun x => ?_⟩, ⟨rg_012 f (by omega) rg.1, rg_012 f (by omega) rg.2.1, rg_012 f (by omega) rg.2.2.1, rgB_fr rg.2.2.2 (ee _ (by omega)) (ee _ (by omega))⟩, ht, hw, ⟨⟨sv_fr (fun k a b c => ee k (by omega)) r.1.1.1.2 c.1.1, ?_⟩, ⟨ag_PL a hn.2 (fun k a b => ee k (by omega)) c.2.1.1, ag_PP a r.2.1 (by rw [ee 46 (by omega)]) (by rw [ee 46 (by omega)]) c.2.1.2⟩, ag_lie a hn.2 (e4 12 (by omega)) (ee _ (by omega)) c.2.2.1, ag_way a hn.2 (e4 14 (by omega)) (e4 15 (by omega)) (ee _ (by omega)) (ee _ (by omega)) c.2.2.2⟩, fun i hi => by rw [ee 1 (by omega)]; exact l i hi⟩
  · obtain ⟨D, hD⟩ := k4 x
    exact ⟨D, hD.1, holdC_fr hD.2.1 (fun k a b => ee k (by omega)), hM_012 f (by omega) hD.1 hD.2.2.1, lk 1 94 95 D (by omega) (ee _ (by omega)) (ee _ (by omega)) hD.2.2.2⟩
  · obtain ⟨D, hD⟩ := k5 x
    exact ⟨D, hD.1, holdC_fr hD.2.1 (fun k a b => ee k (by omega)), hM_012 f (by omega) hD.1 hD.2.2.1, lk 2 113 114 D (by omega) (ee _ (by omega)) (ee _ (by omega)) hD.2.2.2⟩
  · rw [ag_ws a hn.2]
    exact tbC_fr (ee 41 (by omega)) (ee 42 (by omega)) (ee 43 (by omega)) (ee 44 (by omega)) (fun k a b => ee k (by omega)) c.1.2
theorem TXT_fr {h h' : bg_G} (e1 : h' 3 3 = h 3 3) (e2 : h' 115 0 = h 115 0) (e3 : h' 4 = h 4) (e4 : h' 116 = h 116) (ht : TXT h) : TXT h' := by
  unfold TXT
  rw [e1, e2, e3, e4]
  exact ht
theorem ROW_fr {h h' : bg_G} (e1 : h' 73 = h 73) (e2 : h' 124 = h 124) (e3 : h' 74 = h 74) (e4 : h' 125 = h 125) (ht : ROW h) : ROW h' := by
  unfold ROW
  rw [e1, e2, e3, e4]
  exact ht
theorem op_row (n : Nat) (h : bg_G) (hI : INV h) (p v : Int) (hp : i32 p) (hv : i32 v) : OPI n 1 86 [vR 2, vI p, vI v] 2 142 [vR 115, vI p, vI v] h := by
  intro d Rt k
  have w := hI.2.2.2.2.1
  refine s_crow d n p v hp hv h Rt (fun c1 c2 => k _ _ (fun d2 R2 q => ?_)) (fun cc => k _ _ (fun d2 R2 q => ?_))
  · refine s_mrow d2 n p v hp hv _ R2 (fun _ _ => ?_) (fun cc => absurd ⟨c1, c2⟩ cc)
    obtain ⟨u, rfl⟩ : ∃ u : Nat, p = u := ⟨p.toNat, by omega⟩
    have q := q (bg_up (bg_up h 73 u v) 124 u v) (INV_x hI (fun k _ _ _ _ k5 _ _ _ _ _ k11 _ => by rw [bg_up_ne k11, bg_up_ne k5]) (fun j _ => by rw [bg_up_ne (by omega), bg_up_ne (by omega)]) (fun D hD => LOT_fr (by rw [bg_up_ne (by omega), bg_up_ne (by omega)]) (by rw [bg_up_ne (by omega), bg_up_ne (by omega)]) (by rw [bg_up_ne (by omega), bg_up_ne (by omega)]) (by rw [bg_up_ne (by omega), bg_up_ne (by omega)]) hD.2.2.2) (fun j _ => ⟨by rw [bg_up_ne (by omega), bg_up_ne (by omega)], by rw [bg_up_ne (by omega), bg_up_ne (by omega)]⟩) (TXT_fr (by rw [bg_up_ne (by omega), bg_up_ne (by omega)]) (by rw [bg_up_ne (by omega), bg_up_ne (by omega)]) (by rw [bg_up_ne (by omega), bg_up_ne (by omega)]) (by rw [bg_up_ne (by omega), bg_up_ne (by omega)]) hI.2.2.2.1) ⟨fun j hj => ?_, fun g hg => ?_⟩)
    · rw [bg_up_ne (by omega), ← (w.1 u (by omega)).1]
      exact q
    · rw [bg_up_at, bg_up_ne (by omega), bg_up_at, bg_up_ne (by omega)]
      by_cases c : (j : Int) = u
      · rw [if_pos c, if_pos c]
        exact ⟨rfl, c2⟩
      · rw [if_neg c, if_neg c]
        exact w.1 j hj
    · rw [bg_up_ne (by omega), bg_up_ne (by omega), bg_up_ne (by omega), bg_up_ne (by omega)]
      exact w.2 g hg
  · exact s_mrow d2 n p v hp hv h R2 (fun x y => absurd ⟨x, y⟩ cc) (fun _ => q h hI)
theorem op_tenths (n : Nat) (h : bg_G) (hI : INV h) (p v : Int) (hp : i32 p) (hv : i32 v) : OPI n 1 102 [vR 2, vI p, vI v] 2 180 [vR 115, vI p, vI v] h := by
  intro d Rt k
  have w := hI.2.2.2.2.1
  refine s_ctenths d n p v hp hv h Rt (fun c1 c2 => k _ _ (fun d2 R2 q => ?_)) (fun cc => k _ _ (fun d2 R2 q => ?_))
  · refine s_mtenths d2 n p v hp hv _ R2 (fun _ _ => ?_) (fun cc => absurd ⟨c1, c2⟩ cc)
    obtain ⟨u, rfl⟩ : ∃ u : Nat, p = u := ⟨p.toNat, by omega⟩
    have q := q (bg_up (bg_up h 74 u v) 125 u v) (INV_x hI (fun k _ _ _ _ _ k6 _ _ _ _ _ k12 => by rw [bg_up_ne k12, bg_up_ne k6]) (fun j _ => by rw [bg_up_ne (by omega), bg_up_ne (by omega)]) (fun D hD => LOT_fr (by rw [bg_up_ne (by omega), bg_up_ne (by omega)]) (by rw [bg_up_ne (by omega), bg_up_ne (by omega)]) (by rw [bg_up_ne (by omega), bg_up_ne (by omega)]) (by rw [bg_up_ne (by omega), bg_up_ne (by omega)]) hD.2.2.2) (fun j _ => ⟨by rw [bg_up_ne (by omega), bg_up_ne (by omega)], by rw [bg_up_ne (by omega), bg_up_ne (by omega)]⟩) (TXT_fr (by rw [bg_up_ne (by omega), bg_up_ne (by omega)]) (by rw [bg_up_ne (by omega), bg_up_ne (by omega)]) (by rw [bg_up_ne (by omega), bg_up_ne (by omega)]) (by rw [bg_up_ne (by omega), bg_up_ne (by omega)]) hI.2.2.2.1) ⟨fun j hj => ?_, fun g hg => ?_⟩)
    · rw [bg_up_ne (by omega), ← (w.2 u (by omega)).1]
      exact q
    · rw [bg_up_ne (by omega), bg_up_ne (by omega), bg_up_ne (by omega), bg_up_ne (by omega)]
      exact w.1 j hj
    · rw [bg_up_at, bg_up_ne (by omega), bg_up_at, bg_up_ne (by omega)]
      by_cases c : (g : Int) = u
      · rw [if_pos c, if_pos c]
        exact ⟨rfl, c2⟩
      · rw [if_neg c, if_neg c]
        exact w.2 g hg
  · exact s_mtenths d2 n p v hp hv h R2 (fun x y => absurd ⟨x, y⟩ cc) (fun _ => q h hI)
theorem LOT_g {h : bg_G} (hI : INV h) {D : LD} (hD : BK h 22 54 55 0 D) {u : Nat} {s : Int} (hs : s = -1 ∨ (okS (h 117 0) (h 119 0) s ∧ s ≤ 2147483647)) : LOT (bg_up (bg_up h 54 u s) 122 u s) 0 54 55 D := fun k hk => by
  have a1 : h 117 0 = D.1.length := hD.2.2.1.1.1
  have a2 : h 119 0 = D.2.1.length := hD.2.2.1.1.2.1
  obtain ⟨⟨x1, x2⟩, x3, x4⟩ := hD.2.2.2 k hk
  rw [show (4 : Int) * ((0 : Nat) : Int) + (k : Int) = k by omega] at x1 x2 ⊢
  rw [bg_up_ne (by omega), bg_up_at, bg_up_at, bg_up_ne (k' := 122) (by omega), bg_up_ne (k' := 55) (by omega), bg_up_ne (k' := 55) (by omega), bg_up_ne (k' := 123) (by omega), bg_up_ne (k' := 123) (by omega)]
  by_cases c : (k : Int) = u
  · rw [if_pos c, if_pos c]
    refine ⟨⟨rfl, x2⟩, ?_, x4⟩
    rcases hs with e | ⟨e, e2⟩
    · exact Or.inl e
    · right
      rw [← a1, ← a2]
      refine ⟨e, ?_⟩
      obtain ⟨a, b, _, _, ee, ha, hb⟩ := okS_ex (inv_REL hI).2.1 e2 e
      omega
  · rw [if_neg c, if_neg c]
    exact ⟨⟨x1, x2⟩, x3, x4⟩
theorem op_guard (n : Nat) (h : bg_G) (hI : INV h) (g s : Int) (hg : i32 g) (hs : i32 s) : OPI n 2 98 [vR 2, vI g, vI s] 2 165 [vR 115, vI g, vI s] h := by
  intro d Rt k
  have r := inv_REL hI
  have lo := (inv_lot hI).2
  refine s_cguard d n g s hg hs h Rt (fun c1 c2 => k _ _ (fun d2 R2 q => ?_)) (fun cc => k _ _ (fun d2 R2 q => ?_))
  · rw [isp_ok r hs] at c2
    refine s_mguard d2 n g s hg hs _ R2 (fun _ _ => ?_) (fun cc => absurd ⟨c1, by rw [bg_up_ne (by omega), bg_up_ne (by omega)]; exact c2⟩ cc)
    obtain ⟨u, rfl⟩ : ∃ u : Nat, g = u := ⟨g.toNat, by omega⟩
    have q := q (bg_up (bg_up h 54 u s) 122 u s) (INV_x hI (fun k _ _ k3 _ _ _ _ _ k9 _ _ _ => by rw [bg_up_ne k9, bg_up_ne k3]) (fun j _ => by rw [bg_up_ne (by omega), bg_up_ne (by omega)]) (fun D hD => LOT_g hI hD (by rcases c2 with e | e; exact Or.inl e; exact Or.inr ⟨e, hs.2⟩)) (fun j _ => ⟨by rw [bg_up_nj (by omega), bg_up_ne (by omega)], by rw [bg_up_ne (by omega), bg_up_ne (by omega)]⟩) (TXT_fr (by rw [bg_up_ne (by omega), bg_up_ne (by omega)]) (by rw [bg_up_ne (by omega), bg_up_ne (by omega)]) (by rw [bg_up_ne (by omega), bg_up_ne (by omega)]) (by rw [bg_up_ne (by omega), bg_up_ne (by omega)]) hI.2.2.2.1) (ROW_fr (by rw [bg_up_ne (by omega), bg_up_ne (by omega)]) (by rw [bg_up_ne (by omega), bg_up_ne (by omega)]) (by rw [bg_up_ne (by omega), bg_up_ne (by omega)]) (by rw [bg_up_ne (by omega), bg_up_ne (by omega)]) hI.2.2.2.2.1))
    rw [bg_up_ne (by omega), ← (lo u (by omega)).1]
    exact q
  · exact s_mguard d2 n g s hg hs h R2 (fun x y => absurd ⟨x, by rw [isp_ok r hs]; exact y⟩ cc) (fun _ => q h hI)
theorem LOT_c {h : bg_G} {D : LD} (hD : BK h 22 54 55 0 D) {u : Nat} {w : Int} (hs : -1 ≤ w ∧ w < (wsM h).length) (h' : bg_G) (e1 : h' 54 = h 54) (e2 : h' 122 = h 122) (e3 : h' 55 = bg_up h 55 u w 55) (e4 : h' 123 = bg_up h 123 u w 123) : LOT h' 0 54 55 D := fun k hk => by
  obtain ⟨⟨x1, x2⟩, x3, x4⟩ := hD.2.2.2 k hk
  rw [show (4 : Int) * ((0 : Nat) : Int) + (k : Int) = k by omega] at x1 x2 ⊢
  rw [e1, e2, e3, e4, bg_up_at, bg_up_at]
  by_cases c : (k : Int) = u
  · rw [if_pos c, if_pos c]
    rw [ws_D hD.2.2.1] at hs
    exact ⟨⟨x1, rfl⟩, x3, hs⟩
  · rw [if_neg c, if_neg c]
    exact ⟨⟨x1, x2⟩, x3, x4⟩
theorem op_carrier (n : Nat) (h : bg_G) (hI : INV h) (c w : Int) (hc : i32 c) (hw : i32 w) : OPI n 1 99 [vR 2, vI c, vI w] 3 166 [vR 115, vI c, vI w] h := by
  intro d Rt k
  have r := inv_REL hI
  have lo := (inv_lot hI).2
  have tb := inv_tbl hI
  refine s_ccarrier d n (wsM h).length c w hc hw h tb.1 tb.2.1 Rt (fun c1 c2 => k _ _ (fun d2 R2 q => ?_)) (fun cc => k _ _ (fun d2 R2 q => ?_))
  · obtain ⟨u, rfl⟩ : ∃ u : Nat, c = u := ⟨c.toNat, by omega⟩
    have e : ∀ k, k ≠ 55 → bg_up h 55 u w k = h k := fun k hk => bg_up_ne hk
    have ok1 : okM (bg_up h 55 u w) := okM_fr r.2.1 (e _ (by omega)) (e _ (by omega)) (e _ (by omega)) (e _ (by omega)) (e _ (by omega))
    have a : ag0 h (bg_up h 55 u w) := ag0_fr (e _ (by omega)) (e _ (by omega)) (e _ (by omega)) (e _ (by omega)) (e _ (by omega))
    have hn := r.2.1.1.1
    have wl : wayL (bg_up h 55 u w) := ag_way a hn.2 (by rw [e 115 (by omega)]) (by rw [e 115 (by omega)]) (e _ (by omega)) (e _ (by omega)) (inv_way hI)
    refine s_mcarrier d2 n u w hc hw _ ok1 wl R2 (fun _ _ h2 f => ?_) (fun cc => absurd ⟨c1, by rw [ag_ws a hn.2]; exact c2⟩ cc)
    -- the same with the ways laid first
    obtain ⟨hb, ehb⟩ : ∃ hb : bg_G, hb = fun k => if k = 55 then h 55 else h2 k := ⟨_, rfl⟩
    have b1 : ∀ k, k ≠ 55 → hb k = h2 k := fun k hk => by rw [ehb]; exact if_neg hk
    have b2 : hb 55 = h 55 := by rw [ehb]; exact if_pos rfl
    have fw : frW h hb := by
      refine ⟨fun k k1 k2 k3 k4 => ?_, fun j j1 j2 => ?_, ?_, ?_⟩
      · by_cases x : k = 55
        · subst x; exact b2
        · rw [b1 k x, f.1 k k1 k2 k3 k4, e k x]
      · rw [b1 115 (by omega), f.2.1 j j1 j2, e 115 (by omega)]
      · rw [b1 115 (by omega)]; exact f.2.2.1
      · have := f.2.2.2
        rw [show wsM hb = wsM h2 by unfold wsM; rw [b1 117 (by omega), b1 118 (by omega)]]
        exact tbM_fr (by rw [b1 115 (by omega)]) (b1 _ (by omega)) (b1 _ (by omega)) this
    have hIb := INV_W hI fw
    have e54 : h2 55 = bg_up h 55 u w 55 := f.1 55 (by omega) (by omega) (by omega) (by omega)
    have q := q (bg_up h2 123 u w) (INV_x hIb (fun k _ _ _ k4 _ _ _ _ _ k10 _ _ => by rw [bg_up_ne k10, b1 k k4]) (fun j _ => by rw [bg_up_ne (by omega), b1 115 (by omega)]) (fun D hD => LOT_c hD (u := u) (w := w) (by rw [frW_ws fw]; exact c2) _ (by rw [bg_up_ne (by omega), b1 54 (by omega)]) (by rw [bg_up_ne (by omega), b1 122 (by omega)]) (by rw [bg_up_ne (by omega), e54]; funext j; rw [bg_up_at, bg_up_at, b2]) (by funext j; rw [bg_up_at, bg_up_at, b1 123 (by omega)])) (fun j _ => ⟨by rw [bg_up_ne (by omega), b1 122 (by omega)], by rw [bg_up_nj (by omega), b1 123 (by omega)]⟩) (TXT_fr (by rw [bg_up_ne (by omega), b1 3 (by omega)]) (by rw [bg_up_ne (by omega), b1 115 (by omega)]) (by rw [bg_up_ne (by omega), b1 4 (by omega)]) (by rw [bg_up_ne (by omega), b1 116 (by omega)]) hIb.2.2.2.1) (ROW_fr (by rw [bg_up_ne (by omega), b1 73 (by omega)]) (by rw [bg_up_ne (by omega), b1 124 (by omega)]) (by rw [bg_up_ne (by omega), b1 74 (by omega)]) (by rw [bg_up_ne (by omega), b1 125 (by omega)]) hIb.2.2.2.2.1))
    rw [bg_up_ne (by omega), ← (lo u (by omega)).2]
    exact q
  · exact s_mcarrier d2 n c w hc hw h r.2.1 (inv_way hI) R2 (fun x y => absurd ⟨x, y⟩ cc) (fun _ h2 f => q h2 (INV_W hI f))
theorem op_wipe (n : Nat) (h : bg_G) (hI : INV h) : OPI n 1 79 [vR 2] 1 118 [vR 115] h := by
  intro d Rt k
  obtain ⟨L, t1, t2, t3, t4⟩ := hI.2.2.2.1
  refine s_cwipe d n h Rt (k _ _ (fun d2 R2 q => ?_))
  refine s_mwipe d2 n _ R2 ?_
  have q := q (bg_up (bg_up h 3 3 0) 115 0 0) (INV_x hI (fun k k1 _ _ _ _ _ k7 _ _ _ _ _ => by rw [bg_up_ne k7, bg_up_ne k1]) (fun j hj => by rw [bg_up_nj hj, bg_up_ne (by omega)]) (fun D hD => LOT_fr (by rw [bg_up_ne (by omega), bg_up_ne (by omega)]) (by rw [bg_up_ne (by omega), bg_up_ne (by omega)]) (by rw [bg_up_ne (by omega), bg_up_ne (by omega)]) (by rw [bg_up_ne (by omega), bg_up_ne (by omega)]) hD.2.2.2) (fun j _ => ⟨by rw [bg_up_ne (by omega), bg_up_ne (by omega)], by rw [bg_up_ne (by omega), bg_up_ne (by omega)]⟩) ⟨0, by rw [bg_up_ne (by omega), bg_up_self]; rfl, by rw [bg_up_self]; rfl, by omega, fun i hi => absurd hi (by omega)⟩ (ROW_fr (by rw [bg_up_ne (by omega), bg_up_ne (by omega)]) (by rw [bg_up_ne (by omega), bg_up_ne (by omega)]) (by rw [bg_up_ne (by omega), bg_up_ne (by omega)]) (by rw [bg_up_ne (by omega), bg_up_ne (by omega)]) hI.2.2.2.2.1))
  rw [bg_up_ne (by omega), t2, ← t1]
  exact q
theorem op_write (n : Nat) (h : bg_G) (hI : INV h) (m v : Int) (hm : i32 m) : OPI n 2 78 [vR 2, vI m, vL v] 2 117 [vR 115, vI m, vL v] h := by
  intro d Rt k
  obtain ⟨L, t1, t2, t3, t4⟩ := hI.2.2.2.1
  refine s_cwrite d n L m v hm h t1 t3 Rt (fun c1 c2 h1 f1 f2 f3 f4 => k _ _ (fun d2 R2 q => ?_)) (fun c1 c2 => k _ _ (fun d2 R2 q => ?_)) (fun c1 => k _ _ (fun d2 R2 q => ?_))
  · refine s_mwrite d2 n L m v hm h1 (by rw [f1 115 (by omega) (by omega)]; exact t2) t3 R2 (fun _ _ h2 g1 g2 g3 g4 => ?_) (fun _ c => absurd c2 c) (fun c => absurd c1 c)
    obtain ⟨u, rfl⟩ : ∃ u : Nat, m = u := ⟨m.toNat, by omega⟩
    refine q h2 (INV_x hI (fun k k1 k2 _ _ _ _ k7 k8 _ _ _ _ => by rw [g1 k k7 k8, f1 k k1 k2]) (fun j hj => by rw [g2 j hj, f1 115 (by omega) (by omega)]) (fun D hD => LOT_fr (by rw [g1 _ (by omega) (by omega), f1 _ (by omega) (by omega)]) (by rw [g1 _ (by omega) (by omega), f1 _ (by omega) (by omega)]) (by rw [g1 _ (by omega) (by omega), f1 _ (by omega) (by omega)]) (by rw [g1 _ (by omega) (by omega), f1 _ (by omega) (by omega)]) hD.2.2.2) (fun j _ => ⟨by rw [g1 _ (by omega) (by omega), f1 _ (by omega) (by omega)], by rw [g1 _ (by omega) (by omega), f1 _ (by omega) (by omega)]⟩) ⟨L + u, by rw [g1 3 (by omega) (by omega), f3]; omega, by rw [g3]; omega, by omega, fun i hi => ?_⟩ (ROW_fr (by rw [g1 _ (by omega) (by omega), f1 _ (by omega) (by omega)]) (by rw [g1 _ (by omega) (by omega), f1 _ (by omega) (by omega)]) (by rw [g1 _ (by omega) (by omega), f1 _ (by omega) (by omega)]) (by rw [g1 _ (by omega) (by omega), f1 _ (by omega) (by omega)]) hI.2.2.2.2.1))
    rw [g1 4 (by omega) (by omega), f4, g4, f1 116 (by omega) (by omega)]
    unfold txA
    by_cases c : (L : Int) ≤ (i : Int) ∧ (i : Int) < (L : Int) + ((u : Int).toNat : Nat)
    · rw [if_pos c, if_pos c]
      exact ⟨rfl, byv_rg _ _⟩
    · rw [if_neg c, if_neg c]
      exact t4 i (by omega)
  · exact s_mwrite d2 n L m v hm h t2 t3 R2 (fun _ c => absurd c c2) (fun _ _ => q h hI) (fun c => absurd c1 c)
  · exact s_mwrite d2 n L m v hm h t2 t3 R2 (fun c => absurd c c1) (fun c => absurd c c1) (fun _ => q h hI)
