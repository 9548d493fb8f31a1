/-! what holds between two calls -/
theorem fo_congr {f g : Nat → Int → Int} {a : Int} : ∀ n, (∀ i x, i < n → f i x = g i x) → fo n f a = fo n g a
  | 0, _ => rfl
  | n + 1, h => by
    show f n (fo n f a) = g n (fo n g a)
    rw [fo_congr n (fun i x hi => h i x (by omega)), h n _ (by omega)]
/-- the same book 0 -/
def ag0 (h h' : bg_G) : Prop := h' 117 0 = h 117 0 ∧ h' 119 0 = h 119 0 ∧ (∀ j, 0 ≤ j → j < 84 → h' 118 j = h 118 j) ∧ (∀ j, 0 ≤ j → j < 9 → h' 120 j = h 120 j) ∧ (∀ j, 0 ≤ j → j < 3 → h' 121 j = h 121 j)
theorem ag0_fr {h h' : bg_G} (e6 : h' 117 = h 117) (e7 : h' 118 = h 118) (e8 : h' 119 = h 119) (e9 : h' 120 = h 120) (e0 : h' 121 = h 121) : ag0 h h' := ⟨by rw [e6], by rw [e8], fun j _ _ => by rw [e7], fun j _ _ => by rw [e9], fun j _ _ => by rw [e0]⟩
theorem ag0_I {h h' : bg_G} (f : frI h h') : ag0 h h' := ⟨f.2.2.1 0 (by omega), f.2.2.2.1 0 (by omega), fun j _ hj => f.2.2.2.2.1 j (by omega), fun j _ hj => f.2.2.2.2.2.1 j (by omega), fun j _ hj => f.2.2.2.2.2.2 j (by omega)⟩
theorem ag_cost {h h' : bg_G} (a : ag0 h h') (s : Int) : costM h' s = costM h s := by
  unfold costM
  rw [sm_congr (n := 12) (f := fun i => bt s i * h' 118 (7 * i + 4)) (g := fun i => bt s i * h 118 (7 * i + 4)) (fun i hi => by show _ * _ = _ * _; rw [a.2.2.1 _ (by omega) (by omega)]), sm_congr (n := 3) (f := fun t => bt s (12 + t) * h' 120 (3 * t + 2)) (g := fun t => bt s (12 + t) * h 120 (3 * t + 2)) (fun i hi => by show _ * _ = _ * _; rw [a.2.2.2.1 _ (by omega) (by omega)])]
theorem ag_held {h h' : bg_G} (a : ag0 h h') (s : Int) : heldM h' s = heldM h s := by
  unfold heldM
  refine fo_congr 3 (fun i x hi => ?_)
  show bg_or x (if bt s (12 + i) = 0 then 0 else bg_or (bg_shl 1 (h' 120 (3 * i))) (bg_shl 1 (h' 120 (3 * i + 1)))) = _
  rw [a.2.2.2.1 _ (by omega) (by omega), a.2.2.2.1 _ (by omega) (by omega)]
theorem ag_bear {h h' : bg_G} (a : ag0 h h') (held b : Int) {p : Nat} (hp : p < 12) : bearM h' held p b = bearM h held p b := by
  unfold bearM
  rw [a.2.2.1 _ (by omega) (by omega), a.2.2.1 _ (by omega) (by omega)]
theorem ag_mc {h h' : bg_G} (a : ag0 h h') (hn : h 117 0 ≤ 12) (held one : Int) : mcM h' held one = mcM h held one := by
  unfold mcM mcT
  rw [a.1]
  refine wls_congr 64 (fun c hc => ?_)
  unfold cutM
  refine sm_congr (fun p hp => ?_)
  show (if bt _ (h' 118 (7 * p)) = 1 then if bt _ (h' 118 (7 * p + 1)) = 1 then 0 else brM h' held one p else 0) = _
  unfold brM
  rw [a.2.2.1 _ (by omega) (by omega), a.2.2.1 _ (by omega) (by omega), ag_bear a _ _ (by omega)]
theorem ag_most {h h' : bg_G} (a : ag0 h h') (hn : h 117 0 ≤ 12) (s : Int) : mostM h' s = mostM h s := by
  unfold mostM
  rw [ag_held a, ag_mc a hn]
theorem ag_ws {h h' : bg_G} (a : ag0 h h') (hn : h 117 0 ≤ 12) : wsM h' = wsM h := by
  unfold wsM wsG
  rw [a.1, wf_congr (fun p hp => a.2.2.1 _ (by omega) (by omega)) (fun p hp => a.2.2.1 _ (by omega) (by omega))]
theorem ag_sets {h h' : bg_G} (a : ag0 h h') : setsM h' = setsM h := by
  unfold setsM
  rw [a.2.1]
theorem ag_gn {h h' : bg_G} (a : ag0 h h') (ho : okM h) (held : Int) {w : Nat} (hw : w < (wsM h).length) : gnM h' held w = gnM h held w := by
  have hn := ho.1.1
  have hp := wsM_pt ho hw
  unfold gnM
  rw [ag_ws a hn.2]
  unfold gM
  rw [a.2.2.2.2 1 (by omega) (by omega)]
  exact gn_congr (fun i hi => by
    have := hp.2 i hi
    exact ⟨a.2.2.1 _ (by omega) (by omega), a.2.2.1 _ (by omega) (by omega)⟩)
theorem ag_bw {h h' : bg_G} (a : ag0 h h') (ho : okM h) (held : Int) : bwM h' held = bwM h held := by
  unfold bwM
  rw [ag_ws a ho.1.1.2, bw_congr (wsM h).length (fun w hw => ag_gn a ho held hw)]
theorem ag_pay {h h' : bg_G} (a : ag0 h h') (ho : okM h) (held : Int) : payM h' held = payM h held := by
  unfold payM
  rw [ag_bw a ho, a.2.2.2.2 2 (by omega) (by omega)]
  by_cases c : bwM h held = -4
  · rw [if_pos c, if_pos c]
  · rw [if_neg c, if_neg c]
    have hb := bw_2 (gnM h held) (wsM h).length (fun w hw => by
      have hp := wsM_pt ho hw
      have := gn_rg (worth := h 121 1) (K := fun p => h 118 (7 * p + 3)) (Z := fun p => h 118 (7 * p + 5)) (held := held) (len := lenW (wsM h) w) (pt := ptW (wsM h) w) ho.1.2.2.2.1 (fun i hi => by
        have := ho.2.1 (ptW (wsM h) w i) (by have := hp.2 i hi; have := ho.1.1; omega)
        exact ⟨this.2.2.2.1, this.2.2.2.2.2.1⟩)
      have : -100000000000000000 ≤ gnM h held w := this.1
      omega)
    unfold bwM at c ⊢
    rcases hb with ⟨x, _⟩ | ⟨x, y, _⟩
    · exact absurd x c
    · exact ag_gn a ho held (by omega)
theorem ag_okN {h h' : bg_G} (a : ag0 h h') {s : Nat} : okN h' s ↔ okN h s := by
  unfold okN
  rw [a.1, a.2.1]
theorem ag_lp {h h' : bg_G} (a : ag0 h h') (ho : okM h) : lpM h' (setsM h') = lpM h (setsM h) := by
  unfold lpM
  rw [ag_sets a, a.1, a.2.1, a.2.2.2.2 0 (by omega) (by omega)]
  have e1 : (fun s : Nat => payM h' (heldM h' s)) = fun s : Nat => payM h (heldM h s) := by
    funext s
    rw [ag_held a, ag_pay a ho]
  rw [e1]
  exact bsF_congr _ (fun s hs => by rw [ag_cost a])
theorem ag_PLN {h h' x : bg_G} (a : ag0 h h') (hn : h 117 0 ≤ 12) (hp : PLN h x) : PLN h' x := by
  obtain ⟨p1, p2, p3, p4⟩ := hp
  refine ⟨by rw [a.1]; exact p1, fun m hm => ?_, fun m hm => ?_, fun c hc => ?_⟩
  · rw [a.1] at hm
    rw [p2 m hm]
    unfold mh
    rw [ag_mc a hn]
  · rw [a.1] at hm
    have key : ∀ s, aP h' m s ↔ aP h m s := fun s => by
      unfold aP
      rw [ag_okN a, ag_cost a, ag_held a, a.2.2.2.2 0 (by omega) (by omega)]
    rcases p3 m hm with ⟨x1, x2⟩ | ⟨s, x1, x2, x3⟩
    · exact Or.inl ⟨x1, fun s hs => x2 s ((key s).1 hs)⟩
    · exact Or.inr ⟨s, (key s).2 x1, x2, fun s' hs' => x3 s' ((key s').1 hs')⟩
  · obtain ⟨s, x1, x2, x3, x4, x5⟩ := p4 c hc
    refine ⟨s, (ag_okN a).2 x1, by rw [ag_cost a]; exact x2, x3, by rw [ag_most a hn]; exact x4, fun s' h1 h2 => ?_⟩
    rw [ag_cost a] at h2
    rw [ag_most a hn, ag_most a hn]
    exact x5 s' ((ag_okN a).1 h1) h2
theorem ag_PL {h h' : bg_G} (a : ag0 h h') (hn : h 117 0 ≤ 12) (hf : ∀ k, 46 ≤ k → k ≤ 52 → h' k = h k) (hp : PL h) : PL h' := by
  unfold PL
  rw [hf 46 (by omega) (by omega)]
  rcases hp with x | ⟨x, y⟩
  · exact Or.inl x
  · exact Or.inr ⟨x, ag_PLN a hn (PLN_fr y (by rw [hf 46 (by omega) (by omega)]) (hf 47 (by omega) (by omega)) (hf 48 (by omega) (by omega)) (hf 51 (by omega) (by omega)) (hf 52 (by omega) (by omega)))⟩
theorem ag_PP {h h' : bg_G} (a : ag0 h h') (ho : okM h) (h8 : h' 46 8 = h 46 8) (h9 : h' 46 9 = h 46 9) (hp : PP h) : PP h' := by
  unfold PP
  rw [ag_lp a ho, h8, h9]
  exact hp
theorem ag_lie {h h' : bg_G} (a : ag0 h h') (hn : h 117 0 ≤ 12) (e1 : h' 115 12 = h 115 12) (e2 : h' 126 = h 126) (hl : lieM h) : lieM h' := by
  unfold lieM
  rw [e1, e2, a.1]
  rcases hl with x | ⟨x, y⟩
  · exact Or.inl x
  · exact Or.inr ⟨x, fun m hm => by rw [ag_mc a hn]; exact y m hm⟩
theorem ag_way {h h' : bg_G} (a : ag0 h h') (hn : h 117 0 ≤ 12) (e1 : h' 115 14 = h 115 14) (e2 : h' 115 15 = h 115 15) (e3 : h' 127 = h 127) (e4 : h' 128 = h 128) (hl : wayL h) : wayL h' := by
  unfold wayL
  rw [e1, ag_ws a hn]
  rcases hl with x | ⟨x, y⟩
  · exact Or.inl x
  · exact Or.inr ⟨x, tbM_fr e2 e3 e4 y⟩
theorem ag_holdM {h h' : bg_G} (a : ag0 h h') {D : LD} (hD : okD D) (hh : holdM h 0 D) : holdM h' 0 D := by
  obtain ⟨⟨a1, a2, a3, a4, a5⟩, b, c⟩ := hh
  have := hD.1
  refine ⟨⟨a.1.trans a1, a.2.1.trans a2, (a.2.2.2.2 _ (by omega) (by omega)).trans a3, (a.2.2.2.2 _ (by omega) (by omega)).trans a4, (a.2.2.2.2 _ (by omega) (by omega)).trans a5⟩, fun p hp i hi => ?_, fun t ht i hi => ?_⟩
  · rw [a.2.2.1 _ (by omega) (by omega)]; exact b p hp i hi
  · rw [a.2.2.2.1 _ (by omega) (by omega)]; exact c t ht i hi
/-- ways of a land -/
def wsD (D : LD) : List (List Nat) := wsG D.1.length (fun p => gr D.1 p 0) (fun p => gr D.1 p 1)
theorem ws_D {h : bg_G} {D : LD} (hh : holdM h 0 D) : wsM h = wsD D := by
  obtain ⟨⟨a1, a2, a3, a4, a5⟩, b, c⟩ := hh
  unfold wsM wsD wsG
  have a1 : h 117 0 = D.1.length := a1
  rw [a1, Int.toNat_natCast, wf_congr (fun p hp => ?_) (fun p hp => ?_)]
  · have := b p hp 0 (by omega)
    rw [← this]
    congr 1
    omega
  · have := b p hp 1 (by omega)
    rw [← this]
    congr 1
    omega
theorem gs_rg {D : LD} (hD : okD D) {t : Nat} (ht : t < 3) : 0 ≤ gs D.2.1 t ∧ gs D.2.1 t ≤ 4095 := by
  have hd := hD.1
  unfold gs
  by_cases c : t < D.2.1.length
  · rw [if_pos c]
    obtain ⟨x1, x2, x3⟩ := hD.2.2 t c
    obtain ⟨x, hx⟩ : ∃ x : Nat, gr D.2.1 t 0 = x := ⟨(gr D.2.1 t 0).toNat, by omega⟩
    obtain ⟨y, hy⟩ : ∃ y : Nat, gr D.2.1 t 1 = y := ⟨(gr D.2.1 t 1).toNat, by omega⟩
    have p1 : 2 ^ x < 2 ^ 12 := p2_in (by omega)
    have p2 : 2 ^ y < 2 ^ 12 := p2_in (by omega)
    rw [hx, hy, bn_bit (by omega), bn_bit (by omega), bn_or (by omega) (by omega)]
    have := Nat.or_lt_two_pow p1 p2
    omega
  · rw [if_neg c]
    omega
theorem okM_of {h : bg_G} {D : LD} (hD : okD D) (hm : holdM h 0 D) (hg : rgB h 0) : okM h ∧ TM h := by
  obtain ⟨⟨a1, a2, a3, a4, a5⟩, b, c⟩ := hm
  have hd := hD.1
  have a1 : h 117 0 = D.1.length := a1
  have a2 : h 119 0 = D.2.1.length := a2
  have a3 : h 121 0 = D.2.2.1 := a3
  have a4 : h 121 1 = D.2.2.2.1 := a4
  have a5 : h 121 2 = D.2.2.2.2 := a5
  refine ⟨⟨by rw [a1, a2, a3, a4, a5]; omega, fun p hp => ?_, fun t ht => ?_⟩, fun t ht => ?_⟩
  · have g := fun i hi => hg.1 p hp i hi
    have g0 := g 0 (by omega)
    have g1 := g 1 (by omega)
    have g2 := g 2 (by omega)
    have g3 := g 3 (by omega)
    have g4 := g 4 (by omega)
    have g5 := g 5 (by omega)
    have g6 := g 6 (by omega)
    rw [show (84 : Int) * ((0 : Nat) : Int) + 7 * (p : Int) + ((0 : Nat) : Int) = 7 * p by omega] at g0
    rw [show (84 : Int) * ((0 : Nat) : Int) + 7 * (p : Int) + ((1 : Nat) : Int) = 7 * p + 1 by omega] at g1
    rw [show (84 : Int) * ((0 : Nat) : Int) + 7 * (p : Int) + ((2 : Nat) : Int) = 7 * p + 2 by omega] at g2
    rw [show (84 : Int) * ((0 : Nat) : Int) + 7 * (p : Int) + ((3 : Nat) : Int) = 7 * p + 3 by omega] at g3
    rw [show (84 : Int) * ((0 : Nat) : Int) + 7 * (p : Int) + ((4 : Nat) : Int) = 7 * p + 4 by omega] at g4
    rw [show (84 : Int) * ((0 : Nat) : Int) + 7 * (p : Int) + ((5 : Nat) : Int) = 7 * p + 5 by omega] at g5
    rw [show (84 : Int) * ((0 : Nat) : Int) + 7 * (p : Int) + ((6 : Nat) : Int) = 7 * p + 6 by omega] at g6
    exact ⟨g0, g1, g2, g3, g4, g5, g6⟩
  · obtain ⟨g0, g1, g2⟩ := hg.2 t ht
    rw [show (9 : Int) * ((0 : Nat) : Int) + 3 * (t : Int) = 3 * t by omega] at g0 g1 g2
    exact ⟨g0, g1, g2⟩
  · obtain ⟨x1, x2, x3⟩ := hD.2.2 t (by omega)
    have c0 := c t (by omega) 0 (by omega)
    have c1 := c t (by omega) 1 (by omega)
    rw [show (9 : Int) * ((0 : Nat) : Int) + 3 * (t : Int) + ((0 : Nat) : Int) = 3 * t by omega] at c0
    rw [show (9 : Int) * ((0 : Nat) : Int) + 3 * (t : Int) + ((1 : Nat) : Int) = 3 * t + 1 by omega] at c1
    rw [c0, c1, a1]
    exact ⟨x1, x2⟩
theorem REL_of {h : bg_G} {D : LD} (hD : okD D) (hc : holdC h 22 D) (hm : holdM h 0 D) (hg : rgB h 0) : REL h := by
  obtain ⟨okm, tm⟩ := okM_of hD hm hg
  obtain ⟨⟨a1, a2, a3, a4, a5⟩, b, c⟩ := hm
  obtain ⟨⟨b1, b2, b3, b4, b5⟩, d, e⟩ := hc
  have hd := hD.1
  have a1 : h 117 0 = D.1.length := a1
  have a2 : h 119 0 = D.2.1.length := a2
  have a3 : h 121 0 = D.2.2.1 := a3
  have a4 : h 121 1 = D.2.2.2.1 := a4
  have a5 : h 121 2 = D.2.2.2.2 := a5
  have d : ∀ p : Nat, p < 12 → ∀ i : Nat, i < 7 → h (24 + p) i = gr D.1 p i := d
  have e : ∀ t : Nat, t < 3 → h 36 t = gs D.2.1 t ∧ h 37 t = gr D.2.1 t 2 := e
  have rg : ∀ p : Nat, p < 12 → ∀ i : Nat, i < 7 → 0 ≤ h (24 + p) i ∧ h (24 + p) i ≤ lim i := fun p hp i hi => by
    rw [d p hp i hi]
    by_cases x : p < D.1.length
    · exact hD.2.1 p x i hi
    · rw [gr_no (by omega)]
      exact ⟨by omega, (lim_rg i hi).1⟩
  refine ⟨⟨by rw [b1, b2, b3, b4, b5]; omega, fun p hp => ⟨rg p hp 0 (by omega), rg p hp 1 (by omega), rg p hp 2 (by omega), rg p hp 3 (by omega), rg p hp 4 (by omega), rg p hp 5 (by omega), rg p hp 6 (by omega)⟩, fun t ht => ?_⟩, okm, tm, ⟨b1.trans a1.symm, b2.trans a2.symm, b3.trans a3.symm, b4.trans a4.symm, b5.trans a5.symm⟩, fun p hp i h0 h7 => ?_, fun p hp hp2 i h0 h7 => ?_, fun t ht => ?_⟩
  · rw [(e t ht).1, (e t ht).2]
    refine ⟨gs_rg hD ht, ?_⟩
    by_cases x : t < D.2.1.length
    · exact (hD.2.2 t x).2.2
    · rw [gr_no (by omega)]
      omega
  · obtain ⟨q, rfl⟩ : ∃ q : Nat, i = q := ⟨i.toNat, by omega⟩
    rw [d p (by omega) q (by omega), ← b p (by omega) q (by omega)]
    congr 1
    omega
  · obtain ⟨q, rfl⟩ : ∃ q : Nat, i = q := ⟨i.toNat, by omega⟩
    rw [d p hp2 q (by omega), gr_no (by omega)]
  · rw [(e t (by omega)).1, (e t (by omega)).2]
    have c0 := c t (by omega) 0 (by omega)
    have c1 := c t (by omega) 1 (by omega)
    have c2 := c t (by omega) 2 (by omega)
    rw [show (9 : Int) * ((0 : Nat) : Int) + 3 * (t : Int) + ((0 : Nat) : Int) = 3 * t by omega] at c0
    rw [show (9 : Int) * ((0 : Nat) : Int) + 3 * (t : Int) + ((1 : Nat) : Int) = 3 * t + 1 by omega] at c1
    rw [show (9 : Int) * ((0 : Nat) : Int) + 3 * (t : Int) + ((2 : Nat) : Int) = 3 * t + 2 by omega] at c2
    rw [c0, c1, c2]
    unfold gs
    rw [if_pos (by omega)]
    exact ⟨rfl, rfl⟩
/-- the lots of book B and of the class's cells g, c are alike, and as they may be -/
def LOT (h : bg_G) (B g c : Nat) (D : LD) : Prop := ∀ k : Nat, k < 4 → (h g k = h 122 (4 * B + k) ∧ h c k = h 123 (4 * B + k)) ∧ (h g k = -1 ∨ (okS D.1.length D.2.1.length (h g k) ∧ h g k < 32768)) ∧ (-1 ≤ h c k ∧ h c k < (wsD D).length)
def BK (h : bg_G) (o g c B : Nat) (D : LD) : Prop := okD D ∧ holdC h o D ∧ holdM h B D ∧ LOT h B g c D
def KEP (h : bg_G) : Prop := ∃ q : Nat, q ≤ 2 ∧ h 2 13 = q ∧ h 115 9 = q ∧ (1 ≤ q → ∃ D, BK h 77 94 95 1 D) ∧ (2 ≤ q → ∃ D, BK h 96 113 114 2 D)
def RG (h : bg_G) : Prop := rgB h 0 ∧ rgB h 1 ∧ rgB h 2 ∧ rgB h 3
def TXT (h : bg_G) : Prop := ∃ L : Nat, h 3 3 = L ∧ h 115 0 = L ∧ L ≤ 400 ∧ ∀ i : Nat, i < L → h 4 i = h 116 i ∧ 0 ≤ h 116 i ∧ h 116 i ≤ 255
def ROW (h : bg_G) : Prop := (∀ p : Nat, p < 12 → h 73 p = h 124 p ∧ 0 ≤ h 124 p ∧ h 124 p ≤ 99) ∧ ∀ g : Nat, g < 4 → h 74 g = h 125 g ∧ 0 ≤ h 125 g ∧ h 125 g ≤ 10
def CSH (h : bg_G) : Prop := (svC h ∧ tbC h (wsM h)) ∧ (PL h ∧ PP h) ∧ lieM h ∧ wayL h
def INV (h : bg_G) : Prop := (∃ D, BK h 22 54 55 0 D) ∧ KEP h ∧ RG h ∧ TXT h ∧ ROW h ∧ CSH h ∧ limC h
