theorem va_P_perm {D : va_G} {cl : List vw_C} {ws ws' : va_W} {H : Heap} (hp : ws.Perm ws') (h : va_P D cl ws H) : va_P D cl ws' H := fun k q hq => by
  obtain ⟨j, hj⟩ := List.getElem?_of_mem (hp.mem_iff.mpr (List.mem_of_getElem? hq))
  exact h j q hj
theorem va_D_iff {A : Nat → Prop} {ws : va_W} : va_D A ws ↔ ws.Pairwise (fun p q => p.1 ≠ q.1) ∧ ∀ q ∈ ws, A q.1 := by
  constructor
  · intro h
    refine ⟨List.pairwise_iff_getElem.mpr fun i j hi hj hij e => ?_, fun q hq => ?_⟩
    · have := h.1 i j ws[i] ws[j] (List.getElem?_eq_getElem hi) (List.getElem?_eq_getElem hj) e
      omega
    · obtain ⟨j, hj⟩ := List.getElem?_of_mem hq
      exact h.2 j q hj
  · intro h
    refine ⟨fun i j p q hi hj e => ?_, fun k q hk => h.2 q (List.mem_of_getElem? hk)⟩
    obtain ⟨hi1, hi2⟩ := List.getElem?_eq_some_iff.mp hi
    obtain ⟨hj1, hj2⟩ := List.getElem?_eq_some_iff.mp hj
    have hw := List.pairwise_iff_getElem.mp h.1
    rcases Nat.lt_trichotomy i j with hl | hl | hl
    · exact absurd (by rw [hi2, hj2]; exact e) (hw i j hi1 hj1 hl)
    · exact hl
    · exact absurd (by rw [hi2, hj2]; exact e.symm) (hw j i hj1 hi1 hl)
theorem va_D_perm {A : Nat → Prop} {ws ws' : va_W} (hp : ws.Perm ws') (h : va_D A ws) : va_D A ws' := by
  have h := va_D_iff.mp h
  exact va_D_iff.mpr ⟨(hp.pairwise_iff (fun e => Ne.symm e)).mp h.1, fun q hq => h.2 q (hp.mem_iff.mpr hq)⟩
theorem rg_map {α : Type} (a b : List α) : (List.range a.length).map (fun i => (a ++ b)[i]?) = a.map some := by
  apply List.ext_getElem?
  intro i
  by_cases h : i < a.length
  · simp [h, List.getElem?_append_left]
  · simp [h]
theorem rg_map2 {α : Type} (a b : List α) : ((List.range b.length).map (fun i => i + a.length)).map (fun i => (a ++ b)[i]?) = b.map some := by
  apply List.ext_getElem?
  intro i
  by_cases h : i < b.length
  · simp [h, List.getElem?_append_right]
  · simp [h]
theorem va_nd_of : ∀ {l : List Nat}, l.Nodup → va_nd l = true
  | [], _ => rfl
  | a :: l, h => by
    have h := List.nodup_cons.mp h
    simp only [va_nd, Bool.and_eq_true, decide_eq_true_eq]
    exact ⟨h.1, va_nd_of h.2⟩
theorem nd_sh (n k : Nat) : ((List.range n).map (fun i => i + k)).Nodup := by
  refine List.pairwise_iff_getElem.mpr fun i j hi hj hij => ?_
  simp
  omega
section KP
variable {p : Program} {l : Launch} {e : Env} {R : Room} {s : State} {m : MethodId} {args : Array Value} {below : List Frame} {meth : Method} {c : Code} {H : Heap} {locs : List Loc} {cells slots : Nat} {Q : State → Prop}
variable {pc : Nat} {ls : Array Slot} {rest st0 : List Value} {a : Array Value} {A : Nat → Prop} {H0 : Heap} {D : va_G} {cI cC cO : ClassId} {ws wc wr wc' ws' : va_W}
variable {y : MethodName} {bytes cc : ByteArray} {maxL nL mc ms n index : Nat} {ret : Option FieldType} {rm : Room} {own C : String} {b : Addr} {As : List Value}
theorem dis_rg (n k : Nat) : ∀ i ∈ (List.range n).map (fun i => i + k), i ∉ List.range k := by
  intro i hi h
  obtain ⟨j, -, rfl⟩ := List.mem_map.mp hi
  have := List.mem_range.mp h
  omega
theorem mwp_i {r : Int32} (hP : va_P D classes ws H) (hD : va_D A ws) (hS : va_S A H0 H locs) (hA : ∀ q, H0.size ≤ q → A q) (hp1 : ws.Perm (wc ++ wr)) (hp2 : (wr ++ wc').Perm ws')
    (hr : va_Run p l e R s m args below meth c H locs cells slots mc ms (F0 m pc ls st0) rest (QI D cI cC cO (va_A wc H.size) wc' r a) (va_A wc H.size))
    (kk : ∀ (H1 : Heap) (locs1 : List Loc), va_P D classes ws' H1 → va_D A ws' → va_S A H0 H1 locs1 → W p l e R s m args below meth c H1 locs1 (cells + mc) (slots + ms) Q (F0 m (pc + 3) ls (.int r :: rest))) : W p l e R s m args below meth c H locs cells slots Q (F0 m pc ls st0) := by
  have hP := va_P_perm hp1 hP
  have hD := va_D_perm hp1 hD
  refine mw_i (wr := wr) (ws' := wr ++ wc') hP hD hS hA (List.range wc.length) ((List.range wr.length).map (fun i => i + wc.length)) (List.range (wr ++ wc').length) (rg_map wc wr) (rg_map2 wc wr) (va_nd_of (nd_sh _ _)) (dis_rg _ _) ?_ (va_nd_of (List.nodup_range)) hr (fun H1 locs1 hP1 hD1 hS1 => kk H1 locs1 (va_P_perm hp2 hP1) (va_D_perm hp2 hD1) hS1)
  have := rg_map (wr ++ wc') []
  rwa [List.append_nil] at this
theorem mwp_v (hP : va_P D classes ws H) (hD : va_D A ws) (hS : va_S A H0 H locs) (hA : ∀ q, H0.size ≤ q → A q) (hp1 : ws.Perm (wc ++ wr)) (hp2 : (wr ++ wc').Perm ws')
    (hr : va_Run p l e R s m args below meth c H locs cells slots mc ms (F0 m pc ls st0) rest (QV D cI cC cO (va_A wc H.size) wc' a) (va_A wc H.size))
    (kk : ∀ (H1 : Heap) (locs1 : List Loc), va_P D classes ws' H1 → va_D A ws' → va_S A H0 H1 locs1 → W p l e R s m args below meth c H1 locs1 (cells + mc) (slots + ms) Q (F0 m (pc + 3) ls rest)) : W p l e R s m args below meth c H locs cells slots Q (F0 m pc ls st0) := by
  have hP := va_P_perm hp1 hP
  have hD := va_D_perm hp1 hD
  refine mw_v (wr := wr) (ws' := wr ++ wc') hP hD hS hA (List.range wc.length) ((List.range wr.length).map (fun i => i + wc.length)) (List.range (wr ++ wc').length) (rg_map wc wr) (rg_map2 wc wr) (va_nd_of (nd_sh _ _)) (dis_rg _ _) ?_ (va_nd_of (List.nodup_range)) hr (fun H1 locs1 hP1 hD1 hS1 => kk H1 locs1 (va_P_perm hp2 hP1) (va_D_perm hp2 hD1) hS1)
  have := rg_map (wr ++ wc') []
  rwa [List.append_nil] at this
theorem wc_of (hP : va_P D classes ws H) (hD : va_D A ws) (hp1 : ws.Perm (wc ++ wr)) : va_P D classes wc H ∧ va_D A wc := by
  have hP := va_P_perm hp1 hP
  have hD := va_D_iff.mp (va_D_perm hp1 hD)
  have hw := List.pairwise_append.mp hD.1
  refine ⟨fun k q hk => ?_, va_D_iff.mpr ⟨hw.1, fun q hq => hD.2 q (List.mem_append_left _ hq)⟩⟩
  obtain ⟨j, hj⟩ := List.getElem?_of_mem (List.mem_append_left wr (List.mem_of_getElem? hk))
  exact hP j q hj
theorem cp_Vi {r : Int32} {q : vw_C} {fs : List Value} (S : CallFix p m c cc nL s args lw_g own) (hM : Met l y (Cond.code y bytes maxL ret :: lw_g) rm (va_Pc (.ref b :: As) (pS D cI cC cO H.size wc)) (QI D cI cC cO (va_A wc H.size) wc' r) 0 0 (va_A wc H.size))
    (cw : CallW R s args own C index y bytes maxL ret (Cond.code y bytes maxL ret :: lw_g) rm 0 0 n) (ci q0 : Nat) (hc : classes[ci]? = some q) (hq : q.1 = C) (he : wc[q0]? = some (b, .inr (ci, fs)))
    (hK : va_K D classes (tysA cI cC cO) s) (hP : va_P D classes ws H) (hD : va_D A ws) (hS : va_S A H0 H locs) (hA : ∀ q, H0.size ≤ q → A q) (hN : NW s) (hp1 : ws.Perm (wc ++ wr)) (hp2 : (wr ++ wc').Perm ws')
    (hAs : As.length = n) (hsz : ls.size = nL) (hst : st0 = As.reverse ++ .ref b :: rest) (hW : (rest.map fun v => v.category).sum ≤ 8) (hdg : decode cc pc = .ok (.invokevirtual index, 3)) (hf : cells ≤ R.cells ∧ slots ≤ R.slots)
    (kk : ∀ (H1 : Heap) (locs1 : List Loc), va_P D classes ws' H1 → va_D A ws' → va_S A H0 H1 locs1 → W p l e R s m args below meth c H1 locs1 cells slots Q (F0 m (pc + 3) ls (.int r :: rest))) : W p l e R s m args below meth c H locs cells slots Q (F0 m pc ls st0) := by
  subst hq
  have hc1 := wc_of hP hD hp1
  exact mwp_i hP hD hS hA hp1 hp2 (va_runV (As := As) (rest := rest) S hM cw ⟨pS_blind, va_recv hK hc1.1 hc he, pS_pre hc1.1 hK hc1.2 hN⟩ rfl hAs hsz hst (lv_room hW) hdg hf) kk
theorem cp_Vv {q : vw_C} {fs : List Value} (S : CallFix p m c cc nL s args lw_g own) (hM : Met l y (Cond.code y bytes maxL ret :: lw_g) rm (va_Pc (.ref b :: As) (pS D cI cC cO H.size wc)) (QV D cI cC cO (va_A wc H.size) wc') 0 0 (va_A wc H.size))
    (cw : CallW R s args own C index y bytes maxL ret (Cond.code y bytes maxL ret :: lw_g) rm 0 0 n) (ci q0 : Nat) (hc : classes[ci]? = some q) (hq : q.1 = C) (he : wc[q0]? = some (b, .inr (ci, fs)))
    (hK : va_K D classes (tysA cI cC cO) s) (hP : va_P D classes ws H) (hD : va_D A ws) (hS : va_S A H0 H locs) (hA : ∀ q, H0.size ≤ q → A q) (hN : NW s) (hp1 : ws.Perm (wc ++ wr)) (hp2 : (wr ++ wc').Perm ws')
    (hAs : As.length = n) (hsz : ls.size = nL) (hst : st0 = As.reverse ++ .ref b :: rest) (hW : (rest.map fun v => v.category).sum ≤ 8) (hdg : decode cc pc = .ok (.invokevirtual index, 3)) (hf : cells ≤ R.cells ∧ slots ≤ R.slots)
    (kk : ∀ (H1 : Heap) (locs1 : List Loc), va_P D classes ws' H1 → va_D A ws' → va_S A H0 H1 locs1 → W p l e R s m args below meth c H1 locs1 cells slots Q (F0 m (pc + 3) ls rest)) : W p l e R s m args below meth c H locs cells slots Q (F0 m pc ls st0) := by
  subst hq
  have hc1 := wc_of hP hD hp1
  exact mwp_v hP hD hS hA hp1 hp2 (va_runV (As := As) (rest := rest) S hM cw ⟨pS_blind, va_recv hK hc1.1 hc he, pS_pre hc1.1 hK hc1.2 hN⟩ rfl hAs hsz hst (lv_room hW) hdg hf) kk
theorem cp_Si {r : Int32} (S : CallFix p m c cc nL s args lw_g own) (hM : Met l y (Cond.code y bytes maxL ret :: lw_g) rm (va_Pc As (pS D cI cC cO H.size wc)) (QI D cI cC cO (va_A wc H.size) wc' r) 0 0 (va_A wc H.size))
    (cw : CallB R s args own index y bytes maxL ret (Cond.code y bytes maxL ret :: lw_g) rm 0 0 n ∧ (Cond.static y).before args s = true) 
    (hK : va_K D classes (tysA cI cC cO) s) (hP : va_P D classes ws H) (hD : va_D A ws) (hS : va_S A H0 H locs) (hA : ∀ q, H0.size ≤ q → A q) (hN : NW s) (hp1 : ws.Perm (wc ++ wr)) (hp2 : (wr ++ wc').Perm ws')
    (hAs : As.length = n) (hsz : ls.size = nL) (hst : st0 = As.reverse ++ rest) (hW : (rest.map fun v => v.category).sum ≤ 8) (hdg : decode cc pc = .ok (.invokestatic index, 3)) (hf : cells ≤ R.cells ∧ slots ≤ R.slots)
    (kk : ∀ (H1 : Heap) (locs1 : List Loc), va_P D classes ws' H1 → va_D A ws' → va_S A H0 H1 locs1 → W p l e R s m args below meth c H1 locs1 cells slots Q (F0 m (pc + 3) ls (.int r :: rest))) : W p l e R s m args below meth c H locs cells slots Q (F0 m pc ls st0) := by
  have hc1 := wc_of hP hD hp1
  exact mwp_i hP hD hS hA hp1 hp2 (va_runS (As := As) (rest := rest) S hM cw ⟨pS_blind, pS_pre hc1.1 hK hc1.2 hN⟩ rfl hAs hsz hst (lv_room hW) hdg hf) kk
end KP
theorem pm1_a (o a g f t r : va_W) : (o ++ a ++ g ++ f ++ (t ++ r)).Perm ((a) ++ (o ++ g ++ f ++ t ++ r)) := by haveI : DecidableEq (Nat × va_E) := fun a b => Classical.propDecidable _; refine List.perm_iff_count.mpr (fun x => ?_); simp only [List.count_append]; try omega
theorem pm2_a (o a g f t r : va_W) : ((o ++ g ++ f ++ t ++ r) ++ (a)).Perm (o ++ a ++ g ++ f ++ (t ++ r)) := by haveI : DecidableEq (Nat × va_E) := fun a b => Classical.propDecidable _; refine List.perm_iff_count.mpr (fun x => ?_); simp only [List.count_append]; try omega
theorem pm1_ga (o a g f t r : va_W) : (o ++ a ++ g ++ f ++ (t ++ r)).Perm ((g ++ a) ++ (o ++ f ++ t ++ r)) := by haveI : DecidableEq (Nat × va_E) := fun a b => Classical.propDecidable _; refine List.perm_iff_count.mpr (fun x => ?_); simp only [List.count_append]; try omega
theorem pm2_ga (o a g f t r : va_W) : ((o ++ f ++ t ++ r) ++ (g ++ a)).Perm (o ++ a ++ g ++ f ++ (t ++ r)) := by haveI : DecidableEq (Nat × va_E) := fun a b => Classical.propDecidable _; refine List.perm_iff_count.mpr (fun x => ?_); simp only [List.count_append]; try omega
theorem pm1_f (o a g f t r : va_W) : (o ++ a ++ g ++ f ++ (t ++ r)).Perm ((f) ++ (o ++ a ++ g ++ t ++ r)) := by haveI : DecidableEq (Nat × va_E) := fun a b => Classical.propDecidable _; refine List.perm_iff_count.mpr (fun x => ?_); simp only [List.count_append]; try omega
theorem pm2_f (o a g f t r : va_W) : ((o ++ a ++ g ++ t ++ r) ++ (f)).Perm (o ++ a ++ g ++ f ++ (t ++ r)) := by haveI : DecidableEq (Nat × va_E) := fun a b => Classical.propDecidable _; refine List.perm_iff_count.mpr (fun x => ?_); simp only [List.count_append]; try omega
theorem pm1_fa (o a g f t r : va_W) : (o ++ a ++ g ++ f ++ (t ++ r)).Perm ((f ++ a) ++ (o ++ g ++ t ++ r)) := by haveI : DecidableEq (Nat × va_E) := fun a b => Classical.propDecidable _; refine List.perm_iff_count.mpr (fun x => ?_); simp only [List.count_append]; try omega
theorem pm2_fa (o a g f t r : va_W) : ((o ++ g ++ t ++ r) ++ (f ++ a)).Perm (o ++ a ++ g ++ f ++ (t ++ r)) := by haveI : DecidableEq (Nat × va_E) := fun a b => Classical.propDecidable _; refine List.perm_iff_count.mpr (fun x => ?_); simp only [List.count_append]; try omega
theorem pm1_tr (o a g f t r : va_W) : (o ++ a ++ g ++ f ++ (t ++ r)).Perm ((t ++ r) ++ (o ++ a ++ g ++ f)) := by haveI : DecidableEq (Nat × va_E) := fun a b => Classical.propDecidable _; refine List.perm_iff_count.mpr (fun x => ?_); simp only [List.count_append]; try omega
theorem pm2_tr (o a g f t r : va_W) : ((o ++ a ++ g ++ f) ++ (t ++ r)).Perm (o ++ a ++ g ++ f ++ (t ++ r)) := by haveI : DecidableEq (Nat × va_E) := fun a b => Classical.propDecidable _; refine List.perm_iff_count.mpr (fun x => ?_); simp only [List.count_append]; try omega
theorem pm1_tra (o a g f t r : va_W) : (o ++ a ++ g ++ f ++ (t ++ r)).Perm (((t ++ r) ++ a) ++ (o ++ g ++ f)) := by haveI : DecidableEq (Nat × va_E) := fun a b => Classical.propDecidable _; refine List.perm_iff_count.mpr (fun x => ?_); simp only [List.count_append]; try omega
theorem pm2_tra (o a g f t r : va_W) : ((o ++ g ++ f) ++ ((t ++ r) ++ a)).Perm (o ++ a ++ g ++ f ++ (t ++ r)) := by haveI : DecidableEq (Nat × va_E) := fun a b => Classical.propDecidable _; refine List.perm_iff_count.mpr (fun x => ?_); simp only [List.count_append]; try omega
theorem pm1_ar (o a g f t r : va_W) : (o ++ a ++ g ++ f ++ (t ++ r)).Perm ((a ++ r) ++ (o ++ g ++ f ++ t)) := by haveI : DecidableEq (Nat × va_E) := fun a b => Classical.propDecidable _; refine List.perm_iff_count.mpr (fun x => ?_); simp only [List.count_append]; try omega
theorem pm2_ar (o a g f t r : va_W) : ((o ++ g ++ f ++ t) ++ (a ++ r)).Perm (o ++ a ++ g ++ f ++ (t ++ r)) := by haveI : DecidableEq (Nat × va_E) := fun a b => Classical.propDecidable _; refine List.perm_iff_count.mpr (fun x => ?_); simp only [List.count_append]; try omega
theorem pm1_g (o a g f t r : va_W) : (o ++ a ++ g ++ f ++ (t ++ r)).Perm ((g) ++ (o ++ a ++ f ++ t ++ r)) := by haveI : DecidableEq (Nat × va_E) := fun a b => Classical.propDecidable _; refine List.perm_iff_count.mpr (fun x => ?_); simp only [List.count_append]; try omega
theorem pm2_g (o a g f t r : va_W) : ((o ++ a ++ f ++ t ++ r) ++ (g)).Perm (o ++ a ++ g ++ f ++ (t ++ r)) := by haveI : DecidableEq (Nat × va_E) := fun a b => Classical.propDecidable _; refine List.perm_iff_count.mpr (fun x => ?_); simp only [List.count_append]; try omega
theorem pm1_0 (w : va_W) : w.Perm ([] ++ w) := List.Perm.refl _
theorem pm2_0 (w : va_W) : (w ++ []).Perm w := by rw [List.append_nil]

