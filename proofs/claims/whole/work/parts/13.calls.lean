/-! contracts of all methods, out of the abstract machine -/
def bg_wds (M : bg_M) : List Cond := .code M.1 M.2.1 M.2.2.1 M.2.2.2.1 :: bg_tbl
def bg_rm (d k : Nat) : Room := { frames := d, cells := (bg_mc k).1, slots := (bg_mc k).2, locals := 200 * d }
abbrev bg_U : Type := (Nat → Nat) × bg_H × Option bg_V
def bg_Ps (D : va_G) (cy : Nat → ClassId) (ad : Nat → Nat) (Hh : bg_H) (sz : Nat) (U : State) : Prop := U.heap.size = sz ∧ va_P D bg_cls (bg_ws cy ad Hh) U.heap ∧ va_K D bg_cls (bg_tys cy) U ∧ va_D (fun _ => True) (bg_ws cy ad Hh) ∧ bg_AO U ∧ bg_ro ad Hh (va_A (bg_ws cy ad Hh) sz) U
def bg_po (Rt : bg_R) (ad : Nat → Nat) (Hh : bg_H) (u : bg_U) : Prop := Rt u.2.2 u.2.1 ∧ bg_ag Hh.1.length ad u.1 ∧ Hh.1.length ≤ u.2.1.1.length ∧ bg_wf u.2.1 ∧ bg_nth u.2.1.1 0 = bg_nth Hh.1 0 ∧ u.2.1.2 0 = Hh.2 0 ∧ u.2.1.2 1 = Hh.2 1
def bg_Bq (D : va_G) (cy : Nat → ClassId) (A : Nat → Prop) (u : bg_U) (t : State) : Prop := va_P D bg_cls (bg_ws cy u.1 u.2.1) t.heap ∧ va_K D bg_cls (bg_tys cy) t ∧ va_D A (bg_ws cy u.1 u.2.1)
def bg_Qc (ret : Option FieldType) (D : va_G) (cy : Nat → ClassId) (A : Nat → Prop) (Rt : bg_R) (ad : Nat → Nat) (Hh : bg_H) : Array Value → State → Outcome → State → Prop := match ret with
  | none => va_Qv (fun u => bg_po Rt ad Hh u ∧ u.2.2 = none) (bg_Bq D cy A) A
  | some .long => va_Ql (fun r u => bg_po Rt ad Hh u ∧ ∃ x, u.2.2 = some (.inr (.inl x)) ∧ r = Int64.ofInt x) (bg_Bq D cy A) A
  | some _ => va_Qi (fun r u => bg_po Rt ad Hh u ∧ ∃ x, u.2.2 = some (.inl x) ∧ r = Int32.ofInt x) (bg_Bq D cy A) A
def bg_Met (l : Launch) (d : Nat) : Prop := ∀ (k : Nat) (M : bg_M), bg_nth bg_MS k = some M → ∀ (D : va_G) (cy : Nat → ClassId) (ad : Nat → Nat) (Hh : bg_H) (sz : Nat) (as : List bg_V) (Rt : bg_R), bg_wf Hh → (∀ v ∈ as, bg_vk Hh.1.length v) → bg_Ca bg_MS d k as Hh Rt →
  Met l M.1 (bg_wds M) (bg_rm d k) (va_Pc (as.map (bg_cv ad)) (bg_Ps D cy ad Hh sz)) (bg_Qc M.2.2.2.1 D cy (va_A (bg_ws cy ad Hh) sz) Rt ad Hh) (bg_mc k).1 (bg_mc k).2 (va_A (bg_ws cy ad Hh) sz)
theorem bg_pop_eq : ∀ (n : Nat) (st acc : List bg_V) (as rest : List bg_V), bg_pop n st acc = some (as, rest) → as.reverse ++ rest = acc.reverse ++ st ∧ as.length = acc.length + n
  | 0, st, acc, as, rest, h => by cases h; exact ⟨rfl, by omega⟩
  | n + 1, [], acc, as, rest, h => by cases h
  | n + 1, v :: st, acc, as, rest, h => by
    obtain ⟨h1, h2⟩ := bg_pop_eq n st (v :: acc) as rest h
    exact ⟨by rw [h1]; simp, by simp at h2; omega⟩
theorem bg_blind {av : List Value} {D : va_G} {cy : Nat → ClassId} {ad : Nat → Nat} {Hh : bg_H} {sz : Nat} : FrameBlind (va_Pc av (bg_Ps D cy ad Hh sz)) := fun a U g mk q => by
  obtain ⟨q0, q1, qP, qK, qD, qa, qr0, qr1, qr2⟩ := q
  exact ⟨q0, q1, qP, va_K.moved (u := U) (U := U.calling g mk a) (Vm.Alike.refl U.vm) qK, qD, bg_AO.moved (u := U) (U := U.calling g mk a) (Vm.Alike.refl U.vm) qa, fun L0 h => va_T.moved (u := U) (U := U.calling g mk a) (Vm.Alike.refl U.vm) (qr0 L0 h), va_T.moved (u := U) (U := U.calling g mk a) (Vm.Alike.refl U.vm) qr1, va_Z.moved (u := U) (U := U.calling g mk a) (Vm.Alike.refl U.vm) qr2⟩
section BgC
variable {p : Program} {l : Launch} {e : Env} {R : Room} {s : State} {m : MethodId} {args : Array Value} {below : List Frame} {meth : Method} {c : Code} {Q : State → Prop} {D : va_G} {cy : Nat → ClassId} {A : Nat → Prop} {M : bg_M} {E0 : (Nat → Nat) × bg_H}
variable {pc nx : Nat} {L : bg_L} {st r : List bg_V} {Hh : bg_H} {cn : Nat × Nat}
theorem bg_pre (hC : bg_Cx p s m args meth c D cy A M) {nL : Nat} {as : List bg_V} {ad : Nat → Nat} {H : Heap} {locs : List Loc} {ls : Array Slot} (h : bg_Re s D cy A E0 nL L st Hh ad H locs ls) : ∀ U : State, U.heap = H → s.WarmedH U.vm → va_Pc (as.map (bg_cv ad)) (bg_Ps D cy ad Hh H.size) ((as.map (bg_cv ad)).toArray) U := by
  intro U hU hW
  have hAB : ∀ q, va_A (bg_ws cy ad Hh) H.size q → A q := fun q hq => by
    rcases hq with ⟨k, e1, hk⟩ | hq
    · exact h.2.1.2 k _ hk
    · exact hC.2.2.2.2.2.2.1 q (Nat.le_trans h.2.2.1.1 hq)
  have hkp : ∀ a : Nat, a < s.heap.size → ¬ A a → U.heap[a]? = s.heap[a]? := fun a h1 h2 => by rw [hU]; exact h.2.2.1.2.1 a h1 h2
  obtain ⟨r0, r1, r2⟩ := h.2.2.2.2.2.1
  exact ⟨rfl, by rw [hU], by rw [hU]; exact h.1, va_K.moved hW.alike hC.2.2.2.2.2.1, h.2.1.weaken (fun _ _ _ _ => trivial), bg_AO.moved hW.alike hC.2.2.2.2.2.2.2.2, fun L0 hl => (((r0 L0 hl).kept hkp).moved hW.alike).narrow hAB, ((r1.kept hkp).moved hW.alike).narrow hAB, ((r2.kept hkp).moved hW.alike).narrow hAB⟩
/-- behind a call -/
theorem bg_back (hC : bg_Cx p s m args meth c D cy A M) {k : Nat} {ret : Option FieldType} (hret : ret = none ∨ ret = some .int ∨ ret = some .boolean ∨ ret = some .long) {Rt : bg_R} {rest : List bg_V} {av : Array Value} {ad : Nat → Nat} {H : Heap} {locs : List Loc} {ls : Array Slot} {st0 : List Value} (h : bg_Re s D cy A E0 M.2.2.1 L st Hh ad H locs ls) (hrest : ∀ v ∈ rest, bg_vk Hh.1.length v)
    (hr : va_Run p l e R s m args below meth c H locs cn.1 cn.2 (bg_mc k).1 (bg_mc k).2 (F0 m pc ls st0) (rest.map (bg_cv ad)) (bg_Qc ret D cy (va_A (bg_ws cy ad Hh) H.size) Rt ad Hh av) (va_A (bg_ws cy ad Hh) H.size))
    (hk : ∀ v H', Rt v H' → bg_Sim p l e R s m args below meth c Q D cy A E0 M.2.2.1 (pc + 3, L, bg_push v rest, H', (cn.1 + (bg_mc k).1, cn.2 + (bg_mc k).2))) : W p l e R s m args below meth c H locs cn.1 cn.2 Q (F0 m pc ls st0) := by
  have hAB : ∀ q, va_A (bg_ws cy ad Hh) H.size q → A q := fun q hq => by
    rcases hq with ⟨k, e1, hk⟩ | hq
    · exact h.2.1.2 k _ hk
    · exact hC.2.2.2.2.2.2.1 q (Nat.le_trans h.2.2.1.1 hq)
  have key : ∀ (u : bg_U) (t : State) (H1 : Heap) (locs1 : List Loc), t.heap = H1 → bg_po Rt ad Hh u → bg_Bq D cy (va_A (bg_ws cy ad Hh) H.size) u t → va_S A s.heap H1 locs1 → (∀ v, u.2.2 = some v → bg_vk u.2.1.1.length v) → W p l e R s m args below meth c H1 locs1 (cn.1 + (bg_mc k).1) (cn.2 + (bg_mc k).2) Q (F0 m (pc + 3) ls ((bg_push u.2.2 rest).map (bg_cv u.1))) := by
    intro u t H1 locs1 ht hpo hB hS hv
    obtain ⟨b1, b2, b3⟩ := hB
    obtain ⟨p1, p2, p3, p4, p5, p6, p7⟩ := hpo
    rw [ht] at b1
    refine hk _ _ p1 u.1 H1 locs1 ls (h.grow p3 p4 p5 p6 p7 p2 b1 (b3.weaken (fun _ _ _ q => hAB _ q)) hS ?_)
    have hr2 : ∀ v ∈ rest, bg_vk u.2.1.1.length v := fun v hv => bg_vk_le p3 (hrest v hv)
    cases e : u.2.2 with
    | none => exact hr2
    | some v => exact bg_vk2 (hv v e) hr2
  have hmap : ∀ u : bg_U, bg_ag Hh.1.length ad u.1 → rest.map (bg_cv u.1) = rest.map (bg_cv ad) := fun u hu => bg_map_ag hu hrest
  rcases hret with rfl | rfl | rfl | rfl
  · refine va_callv (a := av) hr h.2.2.1 (fun q _ hq => hAB q hq) hAB (fun u t H1 locs1 ht hvm hw hB hz1 hk1 hS => ?_)
    have := key u t H1 locs1 ht hw.1 hB hS (fun v hv => by rw [hw.2] at hv; cases hv)
    rw [hw.2] at this
    simp only [bg_push, hmap u hw.1.2.1] at this
    exact this
  · refine va_calli (a := av) hr h.2.2.1 (fun q _ hq => hAB q hq) hAB (fun r u t H1 locs1 ht hvm hw hB hz1 hk1 hS => ?_)
    obtain ⟨hw, x, hx, rfl⟩ := hw
    have := key u t H1 locs1 ht hw hB hS (fun v hv => by rw [hx] at hv; cases hv; trivial)
    rw [hx] at this
    simp only [bg_push, List.map_cons, hmap u hw.2.1] at this
    exact this
  · refine va_calli (a := av) hr h.2.2.1 (fun q _ hq => hAB q hq) hAB (fun r u t H1 locs1 ht hvm hw hB hz1 hk1 hS => ?_)
    obtain ⟨hw, x, hx, rfl⟩ := hw
    have := key u t H1 locs1 ht hw hB hS (fun v hv => by rw [hx] at hv; cases hv; trivial)
    rw [hx] at this
    simp only [bg_push, List.map_cons, hmap u hw.2.1] at this
    exact this
  · refine va_calll (a := av) hr h.2.2.1 (fun q _ hq => hAB q hq) hAB (fun r u t H1 locs1 ht hvm hw hB hz1 hk1 hS => ?_)
    obtain ⟨hw, x, hx, rfl⟩ := hw
    have := key u t H1 locs1 ht hw hB hS (fun v hv => by rw [hx] at hv; cases hv; trivial)
    rw [hx] at this
    simp only [bg_push, List.map_cons, hmap u hw.2.1] at this
    exact this
theorem bg_wds_good (M' : bg_M) (h : Cond.code M'.1 M'.2.1 M'.2.2.1 M'.2.2.2.1 ∈ bg_tbl) : GoodIn bg_tbl (bg_wds M') := fun w hw => by
  have hm : w ∈ bg_tbl := by
    rcases List.mem_cons.mp hw with rfl | hw
    · exact h
    · exact hw
  exact ⟨hm, good_of_word (List.mem_filter.mp hm).2⟩
theorem bg_callB (hC : bg_Cx p s m args meth c D cy A M) {d k i n : Nat} {M' : bg_M} (hk : bg_nth bg_MS k = some M') (hl : Cond.methodLink M.1.cls i M'.1 ∈ bg_tbl) (hn : (parseMethodDescriptor M'.1.desc).map (fun s => s.parameters.length) = some n) (hRf : d + 1 ≤ R.frames) (hRl : 200 * (d + 1) ≤ R.locals) : CallB R s args M.1.cls i M'.1 M'.2.1 M'.2.2.1 M'.2.2.2.1 (bg_wds M') (bg_rm d k) (bg_mc k).1 (bg_mc k).2 n := by
  obtain ⟨q, hq, hm⟩ := bg_okl_of _ _ 0 bg_okl_all k M' hk
  simp only [bg_okm, Bool.and_eq_true, decide_eq_true_eq] at hm
  have hts := hC.2.2.2.2.1
  exact callB_of n hts (bg_wds_good M' (bg_cw_of _ bg_cw_all k M' hk)) rfl rfl rfl (hts _ (bg_wd_in hm.1.1.1.1.2)) (hts _ hl) ⟨hm.1.1.1.1.1.2.1, hm.1.1.1.1.1.2.2, hn⟩ ⟨hRf, by show 8 + (M'.2.2.1 + 11) + 200 * d ≤ _; have := hm.1.1.1.2; omega⟩
theorem bg_kind {k : Nat} {M' : bg_M} (hk : bg_nth bg_MS k = some M') : ∃ q, bg_nth bg_PL k = some q ∧ bg_okm M' k q = true := by
  obtain ⟨q, h1, h2⟩ := bg_okl_of _ _ 0 bg_okl_all k M' hk
  rw [Nat.zero_add] at h2
  exact ⟨q, h1, h2⟩
theorem bg_ret_ok {k : Nat} {M' : bg_M} (hk : bg_nth bg_MS k = some M') : M'.2.2.2.1 = none ∨ M'.2.2.2.1 = some .int ∨ M'.2.2.2.1 = some .boolean ∨ M'.2.2.2.1 = some .long := by
  obtain ⟨q, h1, h2⟩ := bg_kind hk
  simp only [bg_okm, Bool.and_eq_true, decide_eq_true_eq] at h2
  exact h2.1.2
end BgC
