/-! call by call: both sides answer alike, and all holds on -/
theorem inv_REL {h : bg_G} (hI : INV h) : REL h := by
  obtain ⟨⟨D, b1, b2, b3, b4⟩, _, r, _⟩ := hI
  exact REL_of b1 b2 b3 r.1
theorem inv_wf {h : bg_G} (hI : INV h) : wfM h := ⟨(inv_REL hI).2.1, (inv_REL hI).2.2.1, hI.2.2.2.2.2.1.2.2.1⟩
theorem inv_way {h : bg_G} (hI : INV h) : wayL h := hI.2.2.2.2.2.1.2.2.2
theorem inv_sv {h : bg_G} (hI : INV h) : svC h := hI.2.2.2.2.2.1.1.1
theorem inv_PL {h : bg_G} (hI : INV h) : PL h := hI.2.2.2.2.2.1.2.1.1
theorem inv_PP {h : bg_G} (hI : INV h) : PP h := hI.2.2.2.2.2.1.2.1.2
theorem inv_tbl {h : bg_G} (hI : INV h) : tblC h (wsM h).length (lenW (wsM h)) (ptW (wsM h)) := by
  have hn := (inv_REL hI).2.1.1.1
  exact tbC_tbl (np := (h 117 0).toNat) (by omega) hI.2.2.2.2.2.1.1.2
theorem inv_cr {h : bg_G} (hI : INV h) : crT h (wsM h).length (lenW (wsM h)) (ptW (wsM h)) := tbC_crT (np := (h 117 0).toNat) hI.2.2.2.2.2.1.1.2
theorem inv_lot {h : bg_G} (hI : INV h) : lotM h ∧ ∀ k : Nat, k < 4 → h 54 k = h 122 k ∧ h 55 k = h 123 k := by
  obtain ⟨⟨D, b1, b2, b3, b4⟩, _⟩ := hI
  have a1 : h 117 0 = D.1.length := b3.1.1
  have a2 : h 119 0 = D.2.1.length := b3.1.2.1
  refine ⟨fun k hk => ?_, fun k hk => ?_⟩
  · obtain ⟨⟨c1, c2⟩, c3, c4⟩ := b4 k hk
    rw [show (4 : Int) * ((0 : Nat) : Int) + (k : Int) = k by omega] at c1 c2
    rw [a1, a2, ws_D b3, ← c1, ← c2]
    exact ⟨c3, c4⟩
  · obtain ⟨⟨c1, c2⟩, c3, c4⟩ := b4 k hk
    rw [show (4 : Int) * ((0 : Nat) : Int) + (k : Int) = k by omega] at c1 c2
    exact ⟨c1, c2⟩
/-- the books 0 to 2 are the same -/
def b012 (h h' : bg_G) : Prop := (∀ j, j ≠ 3 → h' 117 j = h 117 j) ∧ (∀ j, j ≠ 3 → h' 119 j = h 119 j) ∧ (∀ j, j < 252 → h' 118 j = h 118 j) ∧ (∀ j, j < 27 → h' 120 j = h 120 j) ∧ (∀ j, j < 9 → h' 121 j = h 121 j)
theorem b012_fr {h h' : bg_G} (e : ∀ k, 117 ≤ k → k ≤ 121 → h' k = h k) : b012 h h' := ⟨fun j _ => by rw [e 117 (by omega) (by omega)], fun j _ => by rw [e 119 (by omega) (by omega)], fun j _ => by rw [e 118 (by omega) (by omega)], fun j _ => by rw [e 120 (by omega) (by omega)], fun j _ => by rw [e 121 (by omega) (by omega)]⟩
theorem b012_0 {h h' : bg_G} (f : b012 h h') : ag0 h h' := ⟨f.1 0 (by omega), f.2.1 0 (by omega), fun j _ hj => f.2.2.1 j (by omega), fun j _ hj => f.2.2.2.1 j (by omega), fun j _ hj => f.2.2.2.2 j (by omega)⟩
theorem hM_012 {h h' : bg_G} (f : b012 h h') {B : Nat} (hB : B ≤ 2) {D : LD} (hD : okD D) (hh : holdM h B D) : holdM h' B D := by
  obtain ⟨⟨a1, a2, a3, a4, a5⟩, b, c⟩ := hh
  have := hD.1
  refine ⟨⟨(f.1 _ (by omega)).trans a1, (f.2.1 _ (by omega)).trans a2, (f.2.2.2.2 _ (by omega)).trans a3, (f.2.2.2.2 _ (by omega)).trans a4, (f.2.2.2.2 _ (by omega)).trans a5⟩, fun p hp i hi => ?_, fun t ht i hi => ?_⟩
  · rw [f.2.2.1 _ (by omega)]; exact b p hp i hi
  · rw [f.2.2.2.1 _ (by omega)]; exact c t ht i hi
theorem rg_012 {h h' : bg_G} (f : b012 h h') {B : Nat} (hB : B ≤ 2) (hg : rgB h B) : rgB h' B := by
  refine ⟨fun p hp i hi => ?_, fun t ht => ?_⟩
  · rw [f.2.2.1 _ (by omega)]; exact hg.1 p hp i hi
  · rw [f.2.2.2.1 _ (by omega), f.2.2.2.1 _ (by omega), f.2.2.2.1 _ (by omega)]; exact hg.2 t ht
theorem LOT_fr {h h' : bg_G} {B g c : Nat} {D : LD} (eg : h' g = h g) (ec : h' c = h c) (e1 : h' 122 = h 122) (e2 : h' 123 = h 123) (hl : LOT h B g c D) : LOT h' B g c D := by
  unfold LOT
  rw [eg, ec, e1, e2]
  exact hl
theorem BK_fr {h h' : bg_G} {o g c B : Nat} {D : LD} (hB : B ≤ 2) (f : b012 h h') (eo : ∀ k, o ≤ k → k ≤ o + 15 → h' k = h k) (eg : h' g = h g) (ec : h' c = h c) (e1 : h' 122 = h 122) (e2 : h' 123 = h 123) (hb : BK h o g c B D) : BK h' o g c B D := ⟨hb.1, holdC_fr hb.2.1 eo, hM_012 f hB hb.1 hb.2.2.1, LOT_fr eg ec e1 e2 hb.2.2.2⟩
theorem KEP_fr {h h' : bg_G} (f : b012 h h') (e : ∀ k, 77 ≤ k → k ≤ 114 → h' k = h k) (e1 : h' 122 = h 122) (e2 : h' 123 = h 123) (e3 : h' 2 13 = h 2 13) (e4 : h' 115 9 = h 115 9) (hk : KEP h) : KEP h' := by
  obtain ⟨q, k1, k2, k3, k4, k5⟩ := hk
  refine ⟨q, k1, by rw [e3]; exact k2, by rw [e4]; exact k3, fun x => ?_, fun x => ?_⟩
  · obtain ⟨D, hD⟩ := k4 x
    exact ⟨D, BK_fr (by omega) f (fun k a b => e k (by omega) (by omega)) (e 94 (by omega) (by omega)) (e 95 (by omega) (by omega)) e1 e2 hD⟩
  · obtain ⟨D, hD⟩ := k5 x
    exact ⟨D, BK_fr (by omega) f (fun k a b => e k (by omega) (by omega)) (e 113 (by omega) (by omega)) (e 114 (by omega) (by omega)) e1 e2 hD⟩
theorem sv_fr {h h' : bg_G} (e : ∀ k, 22 ≤ k → k ≤ 39 → k ≠ 38 → h' k = h k) (hn : h 22 3 ≤ 12) (hs : svC h) : svC h' := fun c hc => by
  rw [e 39 (by omega) (by omega) (by omega), hs c hc]
  unfold outC
  rw [e 22 (by omega) (by omega) (by omega)]
  refine fo_congr _ (fun p x hp => ?_)
  show _ = (if bt (plc c) (h' (24 + p) 0) = 0 then x else if bt (plc c) (h' (24 + p) 1) = 0 then bg_or x (bg_shl 1 p) else x)
  rw [e (24 + p) (by omega) (by omega) (by omega)]
/-- cells of scratch and of what is kept in store -/
def scr (k : Nat) : Prop := k = 3 ∨ k = 5 ∨ (6 ≤ k ∧ k ≤ 21) ∨ k = 38 ∨ k = 40 ∨ (46 ≤ k ∧ k ≤ 52) ∨ (56 ≤ k ∧ k ≤ 72) ∨ k = 115 ∨ (117 ≤ k ∧ k ≤ 121) ∨ (126 ≤ k ∧ k ≤ 139)
def SOFT (h h' : bg_G) : Prop := (∀ k, ¬ scr k → h' k = h k) ∧ (∀ j, j ≠ 2 → h' 3 j = h 3 j) ∧ (∀ j, j ≠ 12 → j ≠ 14 → j ≠ 15 → j ≠ 18 → j ≠ 23 → j ≠ 28 → j ≠ 29 → h' 115 j = h 115 j) ∧ b012 h h'
theorem INV_soft0 {h h' : bg_G} (hI : INV h) (s1 : ∀ k, ¬ scr k → k ≠ 41 → h' k = h k) (s2 : ∀ j, j ≠ 2 → h' 3 j = h 3 j) (s3 : ∀ j, j ≠ 12 → j ≠ 14 → j ≠ 15 → j ≠ 18 → j ≠ 23 → j ≠ 28 → j ≠ 29 → h' 115 j = h 115 j) (s4 : b012 h h') (tb : tbC h' (wsM h')) (g3 : rgB h' 3) (p1 : PL h') (p2 : PP h') (p3 : lieM h') (p4 : wayL h') : INV h' := by
  have rel := inv_REL hI
  obtain ⟨⟨D, b⟩, k, r, ⟨L, t1, t2, t3, t4⟩, w, c, l⟩ := hI
  have e : ∀ k, k ≠ 41 → k ≠ 3 → k ≠ 5 → ¬ (6 ≤ k ∧ k ≤ 21) → k ≠ 38 → k ≠ 40 → ¬ (46 ≤ k ∧ k ≤ 52) → ¬ (56 ≤ k ∧ k ≤ 72) → k ≠ 115 → ¬ (117 ≤ k ∧ k ≤ 121) → ¬ (126 ≤ k ∧ k ≤ 139) → h' k = h k := fun k a0 a1 a2 a3 a4 a5 a6 a7 a8 a9 a10 => s1 k (by unfold scr; omega) a0
  have e' : ∀ k, (k ≤ 2 ∨ k = 4 ∨ (22 ≤ k ∧ k ≤ 37) ∨ k = 39 ∨ (42 ≤ k ∧ k ≤ 45) ∨ (53 ≤ k ∧ k ≤ 55) ∨ (73 ≤ k ∧ k ≤ 114) ∨ k = 116 ∨ (122 ≤ k ∧ k ≤ 125)) → h' k = h k := fun k hk => e k (by omega) (by omega) (by omega) (by omega) (by omega) (by omega) (by omega) (by omega) (by omega) (by omega) (by omega)
  have hn := rel.2.1.1.1
  refine ⟨⟨D, BK_fr (by omega) s4 (fun k a b => e' k (by omega)) (e' 54 (by omega)) (e' 55 (by omega)) (e' 122 (by omega)) (e' 123 (by omega)) b⟩, KEP_fr s4 (fun k a b => e' k (by omega)) (e' 122 (by omega)) (e' 123 (by omega)) (by rw [e' 2 (by omega)]) (s3 9 (by omega) (by omega) (by omega) (by omega) (by omega) (by omega) (by omega)) k, ⟨rg_012 s4 (by omega) r.1, rg_012 s4 (by omega) r.2.1, rg_012 s4 (by omega) r.2.2.1, g3⟩, ⟨L, (s2 3 (by omega)).trans t1, (s3 0 (by omega) (by omega) (by omega) (by omega) (by omega) (by omega) (by omega)).trans t2, t3, fun i hi => by rw [e' 4 (by omega), e' 116 (by omega)]; exact t4 i hi⟩, ?_, ⟨⟨sv_fr (fun k a b c => e' k (by omega)) rel.1.1.1.2 c.1.1, tb⟩, ⟨p1, p2⟩, p3, p4⟩, fun i hi => by rw [e' 1 (by omega)]; exact l i hi⟩
  · refine ⟨fun p hp => ?_, fun g hg => ?_⟩
    · rw [e' 73 (by omega), e' 124 (by omega)]; exact w.1 p hp
    · rw [e' 74 (by omega), e' 125 (by omega)]; exact w.2 g hg
theorem INV_soft {h h' : bg_G} (hI : INV h) (hs : SOFT h h') (g3 : rgB h' 3) (p1 : PL h') (p2 : PP h') (p3 : lieM h') (p4 : wayL h') : INV h' := by
  have e' : ∀ k, ((22 ≤ k ∧ k ≤ 37) ∨ (41 ≤ k ∧ k ≤ 45)) → h' k = h k := fun k hk => hs.1 k (by unfold scr; omega)
  have hn := (inv_REL hI).2.1.1.1
  refine INV_soft0 hI (fun k a _ => hs.1 k a) hs.2.1 hs.2.2.1 hs.2.2.2 ?_ g3 p1 p2 p3 p4
  rw [ag_ws (b012_0 hs.2.2.2) hn.2]
  exact tbC_fr (e' 41 (by omega)) (e' 42 (by omega)) (e' 43 (by omega)) (e' 44 (by omega)) (fun k a b => e' k (by omega)) hI.2.2.2.2.2.1.1.2
/-- nothing in store is changed -/
theorem INV_s1 {h h' : bg_G} (hI : INV h) (hs : SOFT h h') (g3 : rgB h' 3) (e1 : ∀ k, 46 ≤ k → k ≤ 52 → h' k = h k) (e2 : h' 115 12 = h 115 12) (e3 : h' 115 14 = h 115 14) (e4 : h' 115 15 = h 115 15) (e5 : h' 126 = h 126) (e6 : h' 127 = h 127) (e7 : h' 128 = h 128) : INV h' := by
  have rel := inv_REL hI
  have hn := rel.2.1.1.1
  have a := b012_0 hs.2.2.2
  exact INV_soft hI hs g3 (ag_PL a hn.2 e1 (inv_PL hI)) (ag_PP a rel.2.1 (by rw [e1 46 (by omega) (by omega)]) (by rw [e1 46 (by omega) (by omega)]) (inv_PP hI)) (ag_lie a hn.2 e2 e5 hI.2.2.2.2.2.1.2.2.1) (ag_way a hn.2 e3 e4 e6 e7 (inv_way hI))
/-- a call that answers an int -/
def OPI (n dC iC : Nat) (aC : List bg_V) (dM iM : Nat) (aM : List bg_V) (h : bg_G) : Prop := ∀ (d : Nat) (Rt : bg_R), (∀ (x : Int) (h1 : bg_G), (∀ (d2 : Nat) (R2 : bg_R), (∀ h2 : bg_G, INV h2 → R2 (some (.inl x)) (bg_SH n, h2)) → bg_Ca bg_MS (d2 + dM) iM aM (bg_SH n, h1) R2) → Rt (some (.inl x)) (bg_SH n, h1)) → bg_Ca bg_MS (d + dC) iC aC (bg_SH n, h) Rt
/-- a call that answers a long -/
def OPL (n dC iC : Nat) (aC : List bg_V) (dM iM : Nat) (aM : List bg_V) (h : bg_G) : Prop := ∀ (d : Nat) (Rt : bg_R), (∀ (x : Int) (h1 : bg_G), (∀ (d2 : Nat) (R2 : bg_R), (∀ h2 : bg_G, INV h2 → R2 (some (.inr (.inl x))) (bg_SH n, h2)) → bg_Ca bg_MS (d2 + dM) iM aM (bg_SH n, h1) R2) → Rt (some (.inr (.inl x))) (bg_SH n, h1)) → bg_Ca bg_MS (d + dC) iC aC (bg_SH n, h) Rt
theorem op_count (n : Nat) (h : bg_G) (hI : INV h) (w : Int) (hw : i32 w) : OPI n 1 107 [vR 2, vI w] 1 186 [vR 115, vI w] h := by
  intro d Rt k
  have r := (inv_REL hI).2.2.2.1
  obtain ⟨L, t1, t2, _⟩ := hI.2.2.2.1
  obtain ⟨q, k1, k2, k3, _⟩ := hI.2.1
  refine s_ccount d n w hw h Rt (k _ _ (fun d2 R2 q => ?_))
  refine s_mcount d2 n w hw h R2 ?_
  have q := q h hI
  rw [r.1, r.2.1, r.2.2.1, r.2.2.2.1, r.2.2.2.2, t1, k2] at q
  rw [t2, k3]
  by_cases c0 : w = 0
  · rw [if_pos c0] at q ⊢; exact q
  · rw [if_neg c0] at q ⊢
    by_cases c1 : w = 1
    · rw [if_pos c1] at q ⊢; exact q
    · rw [if_neg c1] at q ⊢
      by_cases c2 : w = 2
      · subst c2; rw [if_pos rfl] at q; rw [if_pos (by omega)]; exact q
      · rw [if_neg c2] at q
        by_cases c3 : w = 3
        · subst c3; rw [if_pos rfl] at q; rw [if_pos (by omega)]; exact q
        · rw [if_neg c3] at q
          by_cases c4 : w = 4
          · subst c4; rw [if_pos rfl] at q; rw [if_pos (by omega)]; exact q
          · rw [if_neg c4] at q
            rw [if_neg (by omega)]
            exact q
theorem op_path (n : Nat) (h : bg_G) (hI : INV h) (p w : Int) (hp : i32 p) (hw : i32 w) : OPI n 2 82 [vR 2, vI p, vI w] 3 129 [vR 115, vI p, vI w] h := by
  intro d Rt k
  have r := inv_REL hI
  have r0 := r.2.2.2.1.1
  refine s_cpath d n p w hp hw h r.1.1.1 Rt (fun c1 c2 => k _ _ (fun d2 R2 q => ?_)) (fun c => k _ _ (fun d2 R2 q => ?_))
  · rw [r0] at c1
    refine s_mpath d2 n p w hp hw h r.2.1.1.1 R2 (fun _ _ => ?_) (fun c => absurd ⟨c1, c2⟩ c)
    have e := r.2.2.2.2.1 p.toNat (by omega) w (by omega) (by omega)
    rw [show (7 : Int) * (p.toNat : Nat) + w = 7 * p + w by omega] at e
    rw [← e]
    exact q h hI
  · rw [r0] at c
    exact s_mpath d2 n p w hp hw h r.2.1.1.1 R2 (fun x y => absurd ⟨x, y⟩ c) (fun _ => q h hI)
theorem op_posts (n : Nat) (h : bg_G) (hI : INV h) (s w : Int) (hs : i32 s) (hw : i32 w) : OPI n 2 83 [vR 2, vI s, vI w] 3 134 [vR 115, vI s, vI w] h := by
  intro d Rt k
  have r := inv_REL hI
  refine s_cposts d n s w hw h Rt (fun c1 c2 => k _ _ (fun d2 R2 q => ?_)) (fun c => k _ _ (fun d2 R2 q => ?_))
  · rw [isp_ok r hs] at c1
    refine s_mposts d2 n s w hs hw h R2 (fun _ _ => ?_) (fun c => absurd ⟨c1, c2⟩ c)
    have q := q h hI
    obtain ⟨m, hm, em⟩ := heldM_rg r.2.1 r.2.2.1 hs.2 c1
    rw [cost_eq r hs.2 c1, held_eq r hs.2 c1, em, wait_eq r hm] at q
    rw [em]
    exact q
  · refine s_mposts d2 n s w hs hw h R2 (fun x y => absurd ⟨(isp_ok r hs).2 x, y⟩ c) (fun _ => q h hI)
theorem op_bears (n : Nat) (h : bg_G) (hI : INV h) (s p : Int) (hs : i32 s) (hp : i32 p) : OPI n 3 84 [vR 2, vI s, vI p] 3 136 [vR 115, vI s, vI p] h := by
  intro d Rt k
  have r := inv_REL hI
  have r0 := r.2.2.2.1.1
  refine s_cbears d n s p hp h r.1.1.1 Rt (fun c1 c2 => k _ _ (fun d2 R2 q => ?_)) (fun c => k _ _ (fun d2 R2 q => ?_))
  · rw [isp_ok r hs] at c1
    rw [r0] at c2
    refine s_mbears d2 n s p hs hp h r.2.1.1.1 R2 (fun _ _ => ?_) (fun c => absurd ⟨c1, c2⟩ c)
    have q := q h hI
    rw [held_eq r hs.2 c1, bear_eq r (by omega) _ (by omega)] at q
    exact q
  · rw [r0] at c
    exact s_mbears d2 n s p hs hp h r.2.1.1.1 R2 (fun x y => absurd ⟨(isp_ok r hs).2 x, y⟩ c) (fun _ => q h hI)
theorem op_judge (n : Nat) (h : bg_G) (hI : INV h) (s : Int) (hs : i32 s) : OPI n 3 87 [vR 2, vI s] 3 144 [vR 115, vI s] h := by
  intro d Rt k
  have r := inv_REL hI
  have r0 := r.2.2.2.1.1
  have hn := r.2.1.1.1
  have w := hI.2.2.2.2.1.1
  refine s_cjudge d n s h r.1 (fun p hp => by rw [(w p hp).1]; exact (w p hp).2) Rt (fun c1 => k _ _ (fun d2 R2 q => ?_)) (fun c => k _ _ (fun d2 R2 q => ?_))
  · rw [isp_ok r hs] at c1
    refine s_mjudge d2 n s hs h r.2.1 (fun p hp => (w p hp).2) R2 (fun _ => ?_) (fun c => absurd c1 c)
    have q := q h hI
    have net : ∀ kk : Int, sm (h 22 3).toNat (netC h kk) = sm (h 117 0).toNat (netM h kk) := fun kk => by
      rw [r0]
      refine sm_congr (fun p hp => ?_)
      unfold netC netM
      have e0 := r.2.2.2.2.1 p (by omega) 0 (by omega) (by omega)
      have e1 := r.2.2.2.2.1 p (by omega) 1 (by omega) (by omega)
      rw [e0, e1, (w p (by omega)).1, show (7 : Int) * (p : Int) + 0 = 7 * p by omega]
    have e : jdg (fun p : Nat => if (p : Int) < h 117 0 then bearM h (heldM h s) p 0 else 0) (fun p : Nat => h 124 p) (fun k => sm (h 117 0).toNat (netM h k)) = jdg (fun p : Nat => bearC h (heldC h s) p 0) (fun p : Nat => h 73 p) (fun k => sm (h 22 3).toNat (netC h k)) := by
      rw [show (fun k => sm (h 22 3).toNat (netC h k)) = fun k => sm (h 117 0).toNat (netM h k) from funext net]
      unfold jdg
      refine ff_congr rfl 12 0 (fun p _ hp => ⟨?_, rfl⟩)
      show (if (p : Int) < h 117 0 then bearM h (heldM h s) p 0 else 0) < h 124 p ↔ bearC h (heldC h s) p 0 < h 73 p
      rw [held_eq r hs.2 c1, (w p (by omega)).1]
      by_cases c : (p : Int) < h 117 0
      · rw [if_pos c, bear_eq r c _ (by omega)]
      · rw [if_neg c, bear_0 r (by omega) (by omega)]
    rw [e]
    exact q
  · exact s_mjudge d2 n s hs h r.2.1 (fun p hp => (w p hp).2) R2 (fun x => absurd ((isp_ok r hs).2 x) c) (fun _ => q h hI)
