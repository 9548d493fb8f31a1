theorem op_most (n : Nat) (h : bg_G) (hI : INV h) (s w : Int) (hs : i32 s) (hw : i32 w) : OPI n 5 85 [vR 2, vI s, vI w] 4 141 [vR 115, vI s, vI w] h := by
  intro d Rt k
  have r := inv_REL hI
  have sv := inv_sv hI
  refine s_cmost d n s w hw h r.1 Rt (fun c1 c2 h1 f1 => k _ _ (fun d2 R2 q => ?_)) (fun c => k _ _ (fun d2 R2 q => ?_))
  · rw [isp_ok r hs] at c1
    have e : ∀ k, 115 ≤ k → h1 k = h k := fun k hk => f1 k (by omega) (by omega)
    have ok1 : okM h1 := okM_fr r.2.1 (e _ (by omega)) (e _ (by omega)) (e _ (by omega)) (e _ (by omega)) (e _ (by omega))
    have a : ag0 h h1 := ag0_fr (e _ (by omega)) (e _ (by omega)) (e _ (by omega)) (e _ (by omega)) (e _ (by omega))
    have hn := r.2.1.1.1
    refine s_mmost d2 n s w hs hw h1 ok1 R2 (fun _ _ h2 g1 g2 => ?_) (fun c => absurd ⟨by rw [e 117 (by omega), e 119 (by omega)]; exact c1, c2⟩ c)
    have hI2 : INV h2 := INV_s1 hI ⟨fun k hk => by unfold scr at hk; rw [g1 k (by omega) (by omega) (by omega) (by omega), f1 k (by omega) (by omega)], fun j hj => by rw [g1 3 (by omega) (by omega) (by omega) (by omega), f1 3 (by omega) (by omega)], fun j j1 j2 j3 j4 j5 j6 j7 => by rw [g2 j j5, f1 115 (by omega) (by omega)], b012_fr (fun k a b => by rw [g1 k (by omega) (by omega) (by omega) (by omega), f1 k (by omega) (by omega)])⟩ (rgB_fr hI.2.2.1.2.2.2 (by rw [g1 118 (by omega) (by omega) (by omega) (by omega), f1 118 (by omega) (by omega)]) (by rw [g1 120 (by omega) (by omega) (by omega) (by omega), f1 120 (by omega) (by omega)])) (fun k a b => by rw [g1 k (by omega) (by omega) (by omega) (by omega), f1 k (by omega) (by omega)]) (by rw [g2 12 (by omega), f1 115 (by omega) (by omega)]) (by rw [g2 14 (by omega), f1 115 (by omega) (by omega)]) (by rw [g2 15 (by omega), f1 115 (by omega) (by omega)]) (by rw [g1 126 (by omega) (by omega) (by omega) (by omega), f1 126 (by omega) (by omega)]) (by rw [g1 127 (by omega) (by omega) (by omega) (by omega), f1 127 (by omega) (by omega)]) (by rw [g1 128 (by omega) (by omega) (by omega) (by omega), f1 128 (by omega) (by omega)])
    have q := q h2 hI2
    obtain ⟨S, s1, s2, s3, s4⟩ := mcM_S r.2.1 (heldM h s) (-4)
    have eo : outM h1 (mcM h (heldM h s) (-4)).2 = outM h (mcM h (heldM h s) (-4)).2 := by
      unfold outM
      rw [e 117 (by omega), e 118 (by omega)]
    rw [held_eq r hs.2 c1, mc_eq r sv (Or.inl ⟨rfl, rfl⟩)] at q
    rw [ag_held a, ag_mc a hn.2, eo]
    rw [s1, out_eq r sv s2 s3 s4, ← s1] at q
    exact q
  · exact s_mmost d2 n s w hs hw h r.2.1 R2 (fun x y => absurd ⟨(isp_ok r hs).2 x, y⟩ c) (fun _ => q h hI)
theorem op_oneMore (n : Nat) (h : bg_G) (hI : INV h) (s p : Int) (hs : i32 s) (hp : i32 p) : OPI n 5 91 [vR 2, vI s, vI p] 4 150 [vR 115, vI s, vI p] h := by
  intro d Rt k
  have r := inv_REL hI
  have sv := inv_sv hI
  have r0 := r.2.2.2.1.1
  refine s_coneMore d n s p hp h r.1 Rt (fun c1 c2 h1 f1 => k _ _ (fun d2 R2 q => ?_)) (fun c => k _ _ (fun d2 R2 q => ?_))
  · rw [isp_ok r hs] at c1
    rw [r0] at c2
    have e : ∀ k, 115 ≤ k → h1 k = h k := fun k hk => f1 k (by omega) (by omega)
    have ok1 : okM h1 := okM_fr r.2.1 (e _ (by omega)) (e _ (by omega)) (e _ (by omega)) (e _ (by omega)) (e _ (by omega))
    have a : ag0 h h1 := ag0_fr (e _ (by omega)) (e _ (by omega)) (e _ (by omega)) (e _ (by omega)) (e _ (by omega))
    have hn := r.2.1.1.1
    refine s_moneMore d2 n s p hs hp h1 ok1 R2 (fun _ _ h2 g1 g2 => ?_) (fun c => absurd ⟨by rw [e 117 (by omega), e 119 (by omega)]; exact c1, by rw [e 117 (by omega)]; exact c2⟩ c)
    have hI2 : INV h2 := INV_s1 hI ⟨fun k hk => by unfold scr at hk; rw [g1 k (by omega) (by omega) (by omega) (by omega), f1 k (by omega) (by omega)], fun j hj => by rw [g1 3 (by omega) (by omega) (by omega) (by omega), f1 3 (by omega) (by omega)], fun j j1 j2 j3 j4 j5 j6 j7 => by rw [g2 j j5, f1 115 (by omega) (by omega)], b012_fr (fun k a b => by rw [g1 k (by omega) (by omega) (by omega) (by omega), f1 k (by omega) (by omega)])⟩ (rgB_fr hI.2.2.1.2.2.2 (by rw [g1 118 (by omega) (by omega) (by omega) (by omega), f1 118 (by omega) (by omega)]) (by rw [g1 120 (by omega) (by omega) (by omega) (by omega), f1 120 (by omega) (by omega)])) (fun k a b => by rw [g1 k (by omega) (by omega) (by omega) (by omega), f1 k (by omega) (by omega)]) (by rw [g2 12 (by omega), f1 115 (by omega) (by omega)]) (by rw [g2 14 (by omega), f1 115 (by omega) (by omega)]) (by rw [g2 15 (by omega), f1 115 (by omega) (by omega)]) (by rw [g1 126 (by omega) (by omega) (by omega) (by omega), f1 126 (by omega) (by omega)]) (by rw [g1 127 (by omega) (by omega) (by omega) (by omega), f1 127 (by omega) (by omega)]) (by rw [g1 128 (by omega) (by omega) (by omega) (by omega), f1 128 (by omega) (by omega)])
    have q := q h2 hI2
    rw [held_eq r hs.2 c1, mc_eq r sv (one := p) (one' := p) (Or.inr ⟨rfl, c2.1, c2.2⟩), mc_eq r sv (one := -1) (one' := -4) (Or.inl ⟨rfl, rfl⟩)] at q
    rw [ag_held a, ag_mc a hn.2, ag_mc a hn.2]
    exact q
  · rw [r0] at c
    exact s_moneMore d2 n s p hs hp h r.2.1 R2 (fun x y => absurd ⟨(isp_ok r hs).2 x, y⟩ c) (fun _ => q h hI)
/-- the model has laid its ways -/
theorem INV_W {h h' : bg_G} (hI : INV h) (f : frW h h') : INV h' := by
  have r := inv_REL hI
  have hn := r.2.1.1.1
  have e : ∀ k, k ≠ 115 → k ≠ 127 → k ≠ 128 → k ≠ 133 → h' k = h k := f.1
  have a : ag0 h h' := ag0_fr (e _ (by omega) (by omega) (by omega) (by omega)) (e _ (by omega) (by omega) (by omega) (by omega)) (e _ (by omega) (by omega) (by omega) (by omega)) (e _ (by omega) (by omega) (by omega) (by omega)) (e _ (by omega) (by omega) (by omega) (by omega))
  exact INV_soft hI ⟨fun k hk => by unfold scr at hk; exact e k (by omega) (by omega) (by omega) (by omega), fun j hj => by rw [e 3 (by omega) (by omega) (by omega) (by omega)], fun j j1 j2 j3 j4 j5 j6 j7 => f.2.1 j j2 j3, b012_fr (fun k a b => e k (by omega) (by omega) (by omega) (by omega))⟩ (rgB_fr hI.2.2.1.2.2.2 (e _ (by omega) (by omega) (by omega) (by omega)) (e _ (by omega) (by omega) (by omega) (by omega))) (ag_PL a hn.2 (fun k a b => e k (by omega) (by omega) (by omega) (by omega)) (inv_PL hI)) (ag_PP a r.2.1 (by rw [e 46 (by omega) (by omega) (by omega) (by omega)]) (by rw [e 46 (by omega) (by omega) (by omega) (by omega)]) (inv_PP hI)) (ag_lie a hn.2 (f.2.1 12 (by omega) (by omega)) (e _ (by omega) (by omega) (by omega) (by omega)) hI.2.2.2.2.2.1.2.2.1) (Or.inr ⟨f.2.2.1, f.2.2.2⟩)
theorem op_way (n : Nat) (h : bg_G) (hI : INV h) (w i : Int) (hw : i32 w) (hi : i32 i) : OPI n 2 93 [vR 2, vI w, vI i] 3 156 [vR 115, vI w, vI i] h := by
  intro d Rt k
  have r := inv_REL hI
  refine s_cway d n w i hw hi (wsM h) h (inv_tbl hI) Rt (fun c1 c2 => k _ _ (fun d2 R2 q => ?_)) (fun c => k _ _ (fun d2 R2 q => ?_))
  · exact s_mway d2 n w i hw hi h r.2.1 (inv_way hI) R2 (fun _ _ h2 f => q h2 (INV_W hI f)) (fun c => absurd ⟨c1, c2⟩ c)
  · exact s_mway d2 n w i hw hi h r.2.1 (inv_way hI) R2 (fun x y => absurd ⟨x, y⟩ c) (fun _ => q h hI)
theorem op_through (n : Nat) (h : bg_G) (hI : INV h) (s w : Int) (hs : i32 s) (hw : i32 w) : OPI n 4 94 [vR 2, vI s, vI w] 4 158 [vR 115, vI s, vI w] h := by
  intro d Rt k
  have r := inv_REL hI
  refine s_cthrough d n s w hw (wsM h) h r.1 (inv_tbl hI) Rt (fun c1 c2 => k _ _ (fun d2 R2 q => ?_)) (fun c => k _ _ (fun d2 R2 q => ?_))
  · rw [isp_ok r hs] at c1
    refine s_mthrough d2 n s w hs hw h r.2.1 (inv_way hI) R2 (fun _ _ h2 f => ?_) (fun c => absurd ⟨c1, c2⟩ c)
    have q := q h2 (INV_W hI f)
    by_cases x : w < ((wsM h).length : Int)
    · rw [if_pos x, held_eq r hs.2 c1, thr_eq r (by omega)] at q
      rw [if_pos x]
      exact q
    · rw [if_neg x] at q ⊢
      exact q
  · exact s_mthrough d2 n s w hs hw h r.2.1 (inv_way hI) R2 (fun x y => absurd ⟨(isp_ok r hs).2 x, y⟩ c) (fun _ => q h hI)
theorem op_gain (n : Nat) (h : bg_G) (hI : INV h) (s w : Int) (hs : i32 s) (hw : i32 w) : OPL n 3 95 [vR 2, vI s, vI w] 4 160 [vR 115, vI s, vI w] h := by
  intro d Rt k
  have r := inv_REL hI
  refine s_cgain d n s w hw (wsM h) h r.1 (inv_tbl hI) (inv_cr hI) Rt (fun c1 c2 => k _ _ (fun d2 R2 q => ?_)) (fun c => k _ _ (fun d2 R2 q => ?_))
  · rw [isp_ok r hs] at c1
    refine s_mgain d2 n s w hs hw h r.2.1 (inv_way hI) R2 (fun _ _ h2 f => ?_) (fun c => absurd ⟨c1, c2⟩ c)
    have q := q h2 (INV_W hI f)
    by_cases x : w < ((wsM h).length : Int)
    · rw [if_pos x, held_eq r hs.2 c1, g_eq r (by omega)] at q
      rw [if_pos x]
      exact q
    · rw [if_neg x] at q ⊢
      exact q
  · exact s_mgain d2 n s w hs hw h r.2.1 (inv_way hI) R2 (fun x y => absurd ⟨(isp_ok r hs).2 x, y⟩ c) (fun _ => q h hI)
theorem op_bestWay (n : Nat) (h : bg_G) (hI : INV h) (s w : Int) (hs : i32 s) (hw : i32 w) : OPI n 4 96 [vR 2, vI s, vI w] 4 163 [vR 115, vI s, vI w] h := by
  intro d Rt k
  have r := inv_REL hI
  have r7 := r.2.2.2.1.2.2.2.2
  refine s_cbestWay d n s w hw (wsM h) h r.1 (inv_tbl hI) (inv_cr hI) Rt (fun c1 c2 => k _ _ (fun d2 R2 q => ?_)) (fun c => k _ _ (fun d2 R2 q => ?_))
  · rw [isp_ok r hs] at c1
    refine s_mbestWay d2 n s w hs hw h r.2.1 (inv_way hI) R2 (fun _ _ h2 f => ?_) (fun c => absurd ⟨c1, c2⟩ c)
    have q := q h2 (INV_W hI f)
    have eb : bw (gC h (heldM h s) (lenW (wsM h)) (ptW (wsM h))) (wsM h).length = bw (gnM h (heldM h s)) (wsM h).length := bw_congr _ (fun v hv => g_eq r hv)
    rw [held_eq r hs.2 c1, eb, r7, show (bw (gnM h (heldM h s)) (wsM h).length).1 = bwM h (heldM h s) from rfl] at q
    rcases bwM_rg r.2.1 f (heldM h s) with ⟨x, y⟩ | ⟨x, y⟩
    · rw [if_pos y] at q
      rw [if_pos (Or.inl x), x]
      exact q
    · rw [if_neg (by omega)] at q
      by_cases z : w = 0
      · rw [if_pos z] at q
        rw [if_pos (Or.inr z)]
        exact q
      · rw [if_neg z, g_eq r (by omega)] at q
        rw [if_neg (by omega)]
        exact q
  · exact s_mbestWay d2 n s w hs hw h r.2.1 (inv_way hI) R2 (fun x y => absurd ⟨(isp_ok r hs).2 x, y⟩ c) (fun _ => q h hI)
