/-! stores into arrays, copies, switches -/
theorem bg_upd (h : bg_G) (k : Nat) (a x : Int) (ha : 0 ≤ a) : upd (fun j : Nat => Int32.ofInt (h k j)) a.toNat (Int32.ofInt x) = (fun j : Nat => Int32.ofInt (bg_up h k a x k j)) := by
  funext j
  unfold upd bg_up
  by_cases e : j = a.toNat
  · rw [if_pos e, if_pos rfl, if_pos (by omega)]
  · rw [if_neg e, if_pos rfl, if_neg (by omega)]
theorem bg_updL (h : bg_G) (k : Nat) (a x : Int) (ha : 0 ≤ a) : vp_updL (fun j : Nat => Int64.ofInt (h k j)) a.toNat (Int64.ofInt x) = (fun j : Nat => Int64.ofInt (bg_up h k a x k j)) := by
  funext j
  unfold vp_updL bg_up
  by_cases e : j = a.toNat
  · rw [if_pos e, if_pos rfl, if_pos (by omega)]
  · rw [if_neg e, if_pos rfl, if_neg (by omega)]
theorem bg_up_ne {h : bg_G} {k k' : Nat} {a x : Int} (hk : k' ≠ k) : bg_up h k a x k' = h k' := by
  funext j
  unfold bg_up
  rw [if_neg hk]
theorem bg_cpy_ne {h : bg_G} {ks kd k' : Nat} {sp dp n : Int} (hk : k' ≠ kd) : bg_cpy h ks kd sp dp n k' = h k' := by
  funext j
  unfold bg_cpy
  rw [if_neg hk]
theorem bg_cpyN (h : bg_G) (ks kd : Nat) (sp dp n : Int) (h1 : 0 ≤ sp) (h2 : 0 ≤ dp) (h3 : 0 ≤ n) : va_cpy (fun j : Nat => Int32.ofInt (h ks j)) (fun j : Nat => Int32.ofInt (h kd j)) sp.toNat dp.toNat n.toNat = fun j : Nat => Int32.ofInt (bg_cpy h ks kd sp dp n kd j) := by
  funext j
  unfold va_cpy bg_cpy
  rw [if_pos (rfl : kd = kd)]
  by_cases ej : dp.toNat ≤ j ∧ j < dp.toNat + n.toNat
  · rw [if_pos ej, if_pos (show dp ≤ (j : Int) ∧ (j : Int) < dp + n by omega)]
    show Int32.ofInt (h ks ((sp.toNat + (j - dp.toNat) : Nat) : Int)) = _
    rw [show ((sp.toNat + (j - dp.toNat) : Nat) : Int) = sp + ((j : Int) - dp) by omega]
  · rw [if_neg ej, if_neg (show ¬ (dp ≤ (j : Int) ∧ (j : Int) < dp + n) by omega)]
section BgS
variable {p : Program} {l : Launch} {e : Env} {R : Room} {s : State} {m : MethodId} {args : Array Value} {below : List Frame} {meth : Method} {c : Code} {Q : State → Prop} {D : va_G} {cy : Nat → ClassId} {A : Nat → Prop} {M : bg_M} {E0 : (Nat → Nat) × bg_H}
variable {pc nx : Nat} {L : bg_L} {st r : List bg_V} {Hh : bg_H} {cn : Nat × Nat}
theorem sm_iastore (hC : bg_Cx p s m args meth c D cy A M) {k : Nat} {i x : Int} {c0 : bg_C} (hd : decode M.2.1 pc = .ok (.iastore, 1)) (hc : bg_nth Hh.1 k = some c0) (h10 : c0.1 = 10) (hi : 0 ≤ bg_w i ∧ bg_w i < c0.2.1) (hk : bg_Sim p l e R s m args below meth c Q D cy A E0 M.2.2.1 (pc + 1, L, r, (Hh.1, bg_up Hh.2 k (bg_w i) x), cn)) : bg_Sim p l e R s m args below meth c Q D cy A E0 M.2.2.1 (pc, L, .inl x :: .inl i :: .inr (.inr (some k)) :: r, Hh, cn) := by
  intro ad H locs ls h
  have hwf := h.2.2.2.2.1
  have h2 : 2 ≤ k := hwf.ge hc (by omega)
  obtain ⟨t0, ty, ht, -, e1, -⟩ := bg_ty_at (cy := cy) (k := c0.1) (by omega) (by omega)
  rw [e1 h10] at ht
  have ha := bg_arr h hc h2 (by omega)
  rw [if_pos h10] at ha
  refine va_iast hC.1 hC.2.1 hC.2.2.2.2.2.1 h.1 h.2.1 h.2.2.1 (k - 2) t0 ha ht (bg_vin hi) hd (fun H1 locs1 hP hD hS => ?_)
  have hset : (bg_ws cy ad Hh).set (k - 2) (ad k, .inl (cy c0.1, c0.2.1, .inl (upd (fun j : Nat => Int32.ofInt (Hh.2 k j)) (Int32.ofInt i).toNatClampNeg (Int32.ofInt x)))) = bg_ws cy ad (Hh.1, bg_up Hh.2 k (bg_w i) x) := by
    rw [bg_idx, bg_upd _ _ _ _ hi.1, ← bg_ws_up hc h2 (g := bg_up Hh.2 k (bg_w i) x) (fun k' hk' => bg_up_ne hk')]
    simp [bg_ce, h10]
  rw [hset] at hP hD
  exact hk ad H1 locs1 ls (h.heap (bg_up_ne (by omega)) (bg_up_ne (by omega)) hP hD hS (bg_tl (bg_tl (bg_tl h.vk))))
theorem sm_lastore (hC : bg_Cx p s m args meth c D cy A M) {k : Nat} {i x : Int} {c0 : bg_C} (hd : decode M.2.1 pc = .ok (.lastore, 1)) (hc : bg_nth Hh.1 k = some c0) (h10 : c0.1 = 11) (hi : 0 ≤ bg_w i ∧ bg_w i < c0.2.1) (hk : bg_Sim p l e R s m args below meth c Q D cy A E0 M.2.2.1 (pc + 1, L, r, (Hh.1, bg_up Hh.2 k (bg_w i) x), cn)) : bg_Sim p l e R s m args below meth c Q D cy A E0 M.2.2.1 (pc, L, .inr (.inl x) :: .inl i :: .inr (.inr (some k)) :: r, Hh, cn) := by
  intro ad H locs ls h
  have hwf := h.2.2.2.2.1
  have h2 : 2 ≤ k := hwf.ge hc (by omega)
  obtain ⟨t0, ty, ht, -, -, e1⟩ := bg_ty_at (cy := cy) (k := c0.1) (by omega) (by omega)
  rw [e1 h10] at ht
  have ha := bg_arr h hc h2 (by omega)
  rw [if_neg (by omega), if_pos h10] at ha
  refine va_last hC.1 hC.2.1 hC.2.2.2.2.2.1 h.1 h.2.1 h.2.2.1 (k - 2) t0 ha ht (bg_vin hi) hd (fun H1 locs1 hP hD hS => ?_)
  have hset : (bg_ws cy ad Hh).set (k - 2) (ad k, .inl (cy c0.1, c0.2.1, .inr (.inl (vp_updL (fun j : Nat => Int64.ofInt (Hh.2 k j)) (Int32.ofInt i).toNatClampNeg (Int64.ofInt x))))) = bg_ws cy ad (Hh.1, bg_up Hh.2 k (bg_w i) x) := by
    rw [bg_idx, bg_updL _ _ _ _ hi.1, ← bg_ws_up hc h2 (g := bg_up Hh.2 k (bg_w i) x) (fun k' hk' => bg_up_ne hk')]
    simp [bg_ce, h10]
  rw [hset] at hP hD
  exact hk ad H1 locs1 ls (h.heap (bg_up_ne (by omega)) (bg_up_ne (by omega)) hP hD hS (bg_tl (bg_tl (bg_tl h.vk))))
theorem sm_aastore (hC : bg_Cx p s m args meth c D cy A M) {k v : Nat} {i : Int} {c0 c1 : bg_C} (hd : decode M.2.1 pc = .ok (.aastore, 1)) (hc : bg_nth Hh.1 k = some c0) (hv : bg_nth Hh.1 v = some c1) (h12 : (c0.1 = 12 ∧ c1.1 = 2) ∨ (c0.1 = 13 ∧ c1.1 = 3)) (hi : 0 ≤ bg_w i ∧ bg_w i < c0.2.1) (hk : bg_Sim p l e R s m args below meth c Q D cy A E0 M.2.2.1 (pc + 1, L, r, (Hh.1.set k (c0.1, c0.2.1, c0.2.2.set (bg_w i).toNat (some v)), Hh.2), cn)) : bg_Sim p l e R s m args below meth c Q D cy A E0 M.2.2.1 (pc, L, .inr (.inr (some v)) :: .inl i :: .inr (.inr (some k)) :: r, Hh, cn) := by
  intro ad H locs ls h
  have hwf := h.2.2.2.2.1
  have h2 : 2 ≤ k := hwf.ge hc (by omega)
  have h3 : 2 ≤ v := hwf.ge hv (by omega)
  have ha := bg_arr h hc h2 (by omega)
  rw [if_neg (by omega), if_neg (by omega)] at ha
  have hlen := (hwf.2 k c0 hc h2).2.2.2.2 (by omega)
  have hset : (bg_ws cy ad Hh).set (k - 2) (ad k, .inl (cy c0.1, c0.2.1, .inr (.inr (.inr (.inr (va_up (fun j => (c0.2.2.getD j none).map ad) (Int32.ofInt i).toNatClampNeg (some (ad v)))))))) = bg_ws cy ad (Hh.1.set k (c0.1, c0.2.1, c0.2.2.set (bg_w i).toNat (some v)), Hh.2) := by
    rw [← bg_ws_rf hc h2]
    have : (va_up (fun j => (c0.2.2.getD j none).map ad) (Int32.ofInt i).toNatClampNeg (some (ad v))) = fun j => ((c0.2.2.set (bg_w i).toNat (some v)).getD j none).map ad := by
      funext j
      unfold va_up
      rw [bg_getD_set, bg_idx]
      by_cases ej : j = (bg_w i).toNat
      · rw [if_pos ej, if_pos ⟨ej, by omega⟩]
        rfl
      · rw [if_neg ej, if_neg (fun q => ej q.1)]
    rw [this]
    unfold bg_ce
    simp only [show ¬ c0.1 < 10 by omega, show ¬ c0.1 = 10 by omega, show ¬ c0.1 = 11 by omega, if_false]
  have hvk := h.vk
  have hrr : ∀ j x, (c0.2.2.set (bg_w i).toNat (some v)).getD j none = some x → x < Hh.1.length := by
    intro j x hx
    rw [bg_getD_set] at hx
    split at hx
    · cases hx
      exact hvk _ List.mem_cons_self
    · exact (hwf.2 k c0 hc h2).2.2.2.1 j x hx
  obtain ⟨t0, q, ht, hq⟩ : ∃ (t0 : Nat) (q : vw_C), (bg_tys cy)[t0]? = some (cy c0.1, .object q.1) ∧ bg_cls[c1.1]? = some q := by
    rcases h12 with ⟨e1, e2⟩ | ⟨e1, e2⟩
    · exact ⟨2, (bg_R2, bg_T2, 8), by rw [e1]; rfl, by rw [e2]; rfl⟩
    · exact ⟨3, (bg_R3, bg_T3, 2), by rw [e1]; rfl, by rw [e2]; rfl⟩
  refine va_astq hC.1 hC.2.1 hC.2.2.2.2.2.1 h.1 h.2.1 h.2.2.1 (k - 2) t0 (v - 2) c1.1 ha ht (bg_obj h hv h3 (by omega)) hq (bg_vin hi) hd (fun H1 locs1 hP hD hS => ?_)
  rw [hset] at hP hD
  exact hk ad H1 locs1 ls (h.refs hc h2 ⟨rfl, rfl, by simp⟩ hrr hP hD hS (bg_tl (bg_tl (bg_tl h.vk))))
theorem bg_cats_eq (ad : Nat → Nat) : ∀ st : List bg_V, ((st.map (bg_cv ad)).map fun v => v.category).sum = bg_cats st
  | [] => rfl
  | .inl x :: l => by simp [bg_cats, bg_cv, Value.category, ← bg_cats_eq ad l]
  | .inr (.inl x) :: l => by simp [bg_cats, bg_cv, Value.category, ← bg_cats_eq ad l]
  | .inr (.inr none) :: l => by simp [bg_cats, bg_cv, va_rf, Value.category, ← bg_cats_eq ad l]
  | .inr (.inr (some x)) :: l => by simp [bg_cats, bg_cv, va_rf, Value.category, ← bg_cats_eq ad l]
theorem sm_copy (hC : bg_Cx p s m args meth c D cy A M) (hRf : 1 ≤ R.frames) (hRl : 200 ≤ R.locals) {k i0 ks kd : Nat} {n dp sp : Int} {c0 c1 : bg_C} (hd : decode M.2.1 pc = .ok (.invokestatic i0, 3)) (hw : Cond.methodLink M.1.cls i0 arraycopyName ∈ bg_tbl) (hc0 : bg_nth Hh.1 ks = some c0) (hc1 : bg_nth Hh.1 kd = some c1) (h10 : c0.1 = 10) (h11 : c1.1 = 10) (h8 : bg_cats r ≤ 8)
    (h1 : 0 ≤ bg_w sp) (h2 : 0 ≤ bg_w dp) (h3 : 0 ≤ bg_w n) (h4 : bg_w sp + bg_w n ≤ c0.2.1) (h5 : bg_w dp + bg_w n ≤ c1.2.1) (hk : bg_Sim p l e R s m args below meth c Q D cy A E0 M.2.2.1 (pc + 3, L, r, (Hh.1, bg_cpy Hh.2 ks kd (bg_w sp) (bg_w dp) (bg_w n)), cn)) : bg_Sim p l e R s m args below meth c Q D cy A E0 M.2.2.1 (pc, L, .inl n :: .inl dp :: .inr (.inr (some kd)) :: .inl sp :: .inr (.inr (some ks)) :: r, Hh, cn) := by
  intro ad H locs ls h
  have hwf := h.2.2.2.2.1
  have g0 : 2 ≤ ks := hwf.ge hc0 (by omega)
  have g1 : 2 ≤ kd := hwf.ge hc1 (by omega)
  have ha0 := bg_arr h hc0 g0 (by omega)
  rw [if_pos h10, h10] at ha0
  have ha1 := bg_arr h hc1 g1 (by omega)
  rw [if_pos h11, h11] at ha1
  have hts := hC.2.2.2.2.1
  have hset : (bg_ws cy ad Hh).set (kd - 2) (ad kd, .inl (cy 10, c1.2.1, .inl (va_cpy (fun j : Nat => Int32.ofInt (Hh.2 ks j)) (fun j : Nat => Int32.ofInt (Hh.2 kd j)) (Int32.ofInt sp).toNatClampNeg (Int32.ofInt dp).toNatClampNeg (Int32.ofInt n).toNatClampNeg))) = bg_ws cy ad (Hh.1, bg_cpy Hh.2 ks kd (bg_w sp) (bg_w dp) (bg_w n)) := by
    have : (va_cpy (fun j : Nat => Int32.ofInt (Hh.2 ks j)) (fun j : Nat => Int32.ofInt (Hh.2 kd j)) (Int32.ofInt sp).toNatClampNeg (Int32.ofInt dp).toNatClampNeg (Int32.ofInt n).toNatClampNeg) = fun j : Nat => Int32.ofInt (bg_cpy Hh.2 ks kd (bg_w sp) (bg_w dp) (bg_w n) kd j) := bg_cpyN Hh.2 ks kd _ _ _ h1 h2 h3
    rw [this, ← bg_ws_up hc1 g1 (g := bg_cpy Hh.2 ks kd (bg_w sp) (bg_w dp) (bg_w n)) (fun k' hk' => bg_cpy_ne hk')]
    simp [bg_ce, h11]
  refine va_copyi hC.1 hC.2.1 (hC.2.2.1.trans h.2.2.2.1.1.symm) hC.2.2.2.1 (hts _ hw) (hts _ (by decide +kernel)) (hts _ (by decide +kernel)) (hts _ (by decide +kernel)) hC.2.2.2.2.2.1 h.1 h.2.1 h.2.2.1 (ks - 2) (kd - 2) 0 0 ha0 ha1 rfl rfl rfl ?_ ?_ ?_ ?_ ?_ (fun _ _ => rfl) hRf ?_ hd (fun H1 locs1 hP hD hS => ?_)
  · rw [Int32.lt_iff_toInt_lt]; exact Int.not_lt.mpr h1
  · rw [Int32.lt_iff_toInt_lt]; exact Int.not_lt.mpr h2
  · rw [Int32.lt_iff_toInt_lt]; exact Int.not_lt.mpr h3
  · simp only [bg_idx]; omega
  · simp only [bg_idx]; omega
  · rw [bg_cats_eq]
    have : nativeFrameWords "java/lang/System" "arraycopy" 5 ≤ 150 := by decide +kernel
    omega
  · rw [hset] at hP hD
    exact hk ad H1 locs1 ls (h.heap (bg_cpy_ne (by omega)) (bg_cpy_ne (by omega)) hP hD hS (bg_tl (bg_tl (bg_tl (bg_tl (bg_tl h.vk))))))
theorem bg_sw_of {v : Int} {d : Nat} {K : Nat → Prop} : ∀ (ps : List (Int × Nat)), bg_sw v d K ps → (∃ q ∈ ps, v = q.1 ∧ K q.2) ∨ ((∀ q ∈ ps, v ≠ q.1) ∧ K d)
  | [], h => Or.inr ⟨fun q hq => absurd hq List.not_mem_nil, h⟩
  | (a, t) :: ps, h => by
    by_cases e : v = a
    · exact Or.inl ⟨(a, t), List.mem_cons_self, e, h.1 e⟩
    · rcases bg_sw_of ps (h.2 e) with ⟨q, hq, h1⟩ | ⟨h1, h2⟩
      · exact Or.inl ⟨q, List.mem_cons_of_mem _ hq, h1⟩
      · exact Or.inr ⟨List.forall_mem_cons.mpr ⟨e, h1⟩, h2⟩
theorem sm_table (hC : bg_Cx p s m args meth c D cy A M) {x df lo hi : Int} {offs : Array Int} {len a : Nat} {ps : List (Int × Nat)} (hd : decode M.2.1 pc = .ok (.tableswitch df lo hi offs, len)) (ha : (pc : Int) + df = a) (hps : ps.map (·.1) = (List.range (hi - lo + 1).toNat).map (fun (j : Nat) => lo + (j : Int))) (hall : ∀ q ∈ ps, offs[(q.1 - lo).toNat]? = some ((q.2 : Int) - pc)) (hk : bg_sw (bg_w x) a (fun t => bg_Sim p l e R s m args below meth c Q D cy A E0 M.2.2.1 (t, L, r, Hh, cn)) ps) : bg_Sim p l e R s m args below meth c Q D cy A E0 M.2.2.1 (pc, L, .inl x :: r, Hh, cn) := by
  intro ad H locs ls h
  rcases bg_sw_of ps hk with ⟨q, hq, e1, e2⟩ | ⟨h1, h2⟩
  · have hm : q.1 ∈ (List.range (hi - lo + 1).toNat).map (fun (j : Nat) => lo + (j : Int)) := by rw [← hps]; exact List.mem_map_of_mem hq
    obtain ⟨j, hj, e3⟩ := List.mem_map.mp hm
    have hj := List.mem_range.mp hj
    have e4 : (Int32.ofInt x).toInt = q.1 := e1
    refine lv_tableIn hC.1 hC.2.1 hd (by omega) (by omega) (off := (q.2 : Int) - pc) (tgt := q.2) (by rw [e4]; exact hall q hq) (by omega) (e2 ad H locs ls (h.stk (bg_tl h.vk)))
  · refine lv_tableOut hC.1 hC.2.1 hd ?_ ha (h2 ad H locs ls (h.stk (bg_tl h.vk)))
    rcases Int.lt_or_le (Int32.ofInt x).toInt lo with g | g
    · exact Or.inl g
    · rcases Int.lt_or_le hi (Int32.ofInt x).toInt with g2 | g2
      · exact Or.inr g2
      · exfalso
        have hm : (Int32.ofInt x).toInt ∈ ps.map (·.1) := by
          rw [hps]
          exact List.mem_map.mpr ⟨((Int32.ofInt x).toInt - lo).toNat, List.mem_range.mpr (by omega), by omega⟩
        obtain ⟨q, hq, e1⟩ := List.mem_map.mp hm
        exact h1 q hq e1.symm
theorem bg_lk {v df : Int} {a : Nat} {K : Nat → Prop} (ha : (pc : Int) + df = a) : ∀ (l : List (Int × Int)), (∀ q ∈ l, 0 ≤ (pc : Int) + q.2) → bg_sw v a K (l.map (fun q => (q.1, ((pc : Int) + q.2).toNat))) → ∃ t : Nat, (pc : Int) + Op.lookupswitch.offset l df v = t ∧ K t
  | [], _, h => ⟨a, ha, h⟩
  | (x, o) :: l, hn, h => by
    rw [Op.lookupswitch.offset_cons]
    by_cases e : v = x
    · rw [if_pos e.symm]
      have h1 := (List.forall_mem_cons.mp hn).1
      exact ⟨((pc : Int) + o).toNat, by simp only at h1; omega, h.1 e⟩
    · rw [if_neg (fun q => e q.symm)]
      exact bg_lk ha l (List.forall_mem_cons.mp hn).2 (h.2 e)
theorem sm_lookup (hC : bg_Cx p s m args meth c D cy A M) {x df : Int} {prs : Array (Int × Int)} {len a : Nat} (hd : decode M.2.1 pc = .ok (.lookupswitch df prs, len)) (ha : (pc : Int) + df = a) (hp : (prs.toList.zip (prs.toList.drop 1)).all (fun (x, y) => x.1 < y.1) = true) (hn : ∀ q ∈ prs.toList, 0 ≤ (pc : Int) + q.2) (hk : bg_sw (bg_w x) a (fun t => bg_Sim p l e R s m args below meth c Q D cy A E0 M.2.2.1 (t, L, r, Hh, cn)) (prs.toList.map (fun q => (q.1, ((pc : Int) + q.2).toNat)))) : bg_Sim p l e R s m args below meth c Q D cy A E0 M.2.2.1 (pc, L, .inl x :: r, Hh, cn) := by
  intro ad H locs ls h
  obtain ⟨t, e1, e2⟩ := bg_lk ha prs.toList hn hk
  exact lv_lookup hC.1 hC.2.1 hd hp rfl e1 (e2 ad H locs ls (h.stk (bg_tl h.vk)))
end BgS
