/-! The rows that every contract below uses: calls by one row, worlds of a fixed shape, exact pure functions with checked reads. -/
abbrev Mm : Type := Nat → Nat → Int32
abbrev classes : List vw_C := [(RX0, TX0, 2), (RX1, TX1, 5), (RX2, TX2, 9), (RX3, TX3, 7), (RX4, TX4, 4), (RX5, TX5, 23)]
abbrev tysA (cI cC cO : ClassId) : List (ClassId × FieldType) := [(cI, .int), (cC, .char), (cO, .object RX1)]
/-- an index that is in its row, else nothing -/
def ck {α : Type} (i : Int32) (n : Nat) (x : Option α) : Option α := if i < 0 ∨ n ≤ i.toNatClampNeg then none else x
/-- a number that is 0 or 1, else nothing -/
def cz {α : Type} (v : Int32) (x : Option α) : Option α := if v = 0 ∨ v = 1 then x else none
/-- fuel of a loop -/
def FU : Nat := 1100000
def b1 {α β : Type} (o : Option α) (f : α → Option β) : Option β := o.bind f
def b2 {α β γ : Type} (o : Option (α × β)) (f : α → β → Option γ) : Option γ := o.bind fun q => f q.1 q.2
def b3 {α β γ δ : Type} (o : Option (α × β × γ)) (f : α → β → γ → Option δ) : Option δ := o.bind fun q => f q.1 q.2.1 q.2.2
def b4 {α β γ δ ε : Type} (o : Option (α × β × γ × δ)) (f : α → β → γ → δ → Option ε) : Option ε := o.bind fun q => f q.1 q.2.1 q.2.2.1 q.2.2.2
theorem ck_ok {α : Type} {i : Int32} {n : Nat} {x : Option α} {r : α} (h : ck i n x = some r) : vp_in i n ∧ x = some r := by
  unfold ck at h
  split at h
  · cases h
  · rename_i hc; exact ⟨hc, h⟩
theorem cz_ok {α : Type} {v : Int32} {x : Option α} {r : α} (h : cz v x = some r) : (v = 0 ∨ v = 1) ∧ x = some r := by
  unfold cz at h
  split at h
  · rename_i hc; exact ⟨hc, h⟩
  · cases h
theorem b1_ok {α β : Type} {o : Option α} {f : α → Option β} {r : β} (h : b1 o f = some r) : ∃ u, o = some u ∧ f u = some r := by
  cases o with
  | none => cases h
  | some u => exact ⟨u, rfl, h⟩
theorem b2_ok {α β γ : Type} {o : Option (α × β)} {f : α → β → Option γ} {r : γ} (h : b2 o f = some r) : ∃ u v, o = some (u, v) ∧ f u v = some r := by
  cases o with
  | none => cases h
  | some u => exact ⟨u.1, u.2, rfl, h⟩
theorem b3_ok {α β γ δ : Type} {o : Option (α × β × γ)} {f : α → β → γ → Option δ} {r : δ} (h : b3 o f = some r) : ∃ u v w, o = some (u, v, w) ∧ f u v w = some r := by
  cases o with
  | none => cases h
  | some u => exact ⟨u.1, u.2.1, u.2.2, rfl, h⟩
theorem b4_ok {α β γ δ ε : Type} {o : Option (α × β × γ × δ)} {f : α → β → γ → δ → Option ε} {r : ε} (h : b4 o f = some r) : ∃ u v w z, o = some (u, v, w, z) ∧ f u v w z = some r := by
  cases o with
  | none => cases h
  | some u => exact ⟨u.1, u.2.1, u.2.2.1, u.2.2.2, rfl, h⟩
/-- a named value -/
def sv {α β : Type} (x : α) (f : α → Option β) : Option β := f x
theorem sv_ok {α β : Type} {x : α} {f : α → Option β} {r : β} (h : sv x f = some r) : ∃ y, x = y ∧ f y = some r := ⟨x, rfl, h⟩
theorem fp {c : Prop} [d : Decidable c] {α : Type} {a b r : Option α} (hc : c) (h : (if c then a else b) = r) : a = r := by rw [if_pos hc] at h; exact h
theorem fn {c : Prop} [d : Decidable c] {α : Type} {a b r : Option α} (hc : ¬ c) (h : (if c then a else b) = r) : b = r := by rw [if_neg hc] at h; exact h
theorem nz {v : Int32} (h : v = 0 ∨ v = 1) : narrow .boolean (.int v) = .int v := by rcases h with rfl | rfl <;> rfl
/-- a switch over 0 .. n-1: outside -/
theorem sw_out {x : Int32} {n : Nat} (hn : n < 100) (h : ∀ k, k < n → ¬ x = Int32.ofNat k) : x.toInt < 0 ∨ (n : Int) - 1 < x.toInt := by
  by_cases h0 : x.toInt < 0
  · exact Or.inl h0
  · refine Or.inr (Int.not_le.mp fun h1 => ?_)
    have h2 : x.toInt.toNat < n := by omega
    refine h _ h2 (Int32.toInt_inj.mp ?_)
    rw [Int32.toInt_ofNat_of_lt (by omega)]
    omega
/-- words of nest mates: carried in a contract's start -/
def NW (U : State) : Prop := (∀ a i b n d h, Cond.fieldLinkNest a i b n d h ∈ lw_tbl → va_Nw (.fieldLinkNest a i b n d h) U) ∧ ∀ a i x h, Cond.methodLinkNest a i x h ∈ lw_tbl → va_Nw (.methodLinkNest a i x h) U
theorem NW.warm {s U : State} (hW : s.WarmedH U.vm) (h : NW s) : NW U := ⟨fun a i b n d q hm => va_Nw.warmF hW (h.1 a i b n d q hm), fun a i x q hm => va_Nw.warmM hW (h.2 a i x q hm)⟩
theorem NW.same {u U : State} (hv : u.vm = U.vm) (h : NW u) : NW U := ⟨fun a i b n d q hm => va_Nw.same rfl hv (h.1 a i b n d q hm), fun a i x q hm => va_Nw.same rfl hv (h.2 a i x q hm)⟩
/-- a contract's start: the world w, at a heap of sz cells -/
def pS (D : va_G) (cI cC cO : ClassId) (sz : Nat) (w : va_W) : State → Prop := fun U => U.heap.size = sz ∧ va_P D classes w U.heap ∧ va_K D classes (tysA cI cC cO) U ∧ va_D (fun _ => True) w ∧ NW U
/-- its end -/
def qS (D : va_G) (cI cC cO : ClassId) (A : Nat → Prop) (w : va_W) : State → Prop := fun t => va_P D classes w t.heap ∧ va_K D classes (tysA cI cC cO) t ∧ va_D A w
abbrev QI (D : va_G) (cI cC cO : ClassId) (A : Nat → Prop) (w : va_W) (r : Int32) : Array Value → State → Outcome → State → Prop := va_Qi (fun (r2 : Int32) (_ : Unit) => r2 = r) (fun _ => qS D cI cC cO A w) A
abbrev QV (D : va_G) (cI cC cO : ClassId) (A : Nat → Prop) (w : va_W) : Array Value → State → Outcome → State → Prop := va_Qv (fun (_ : Unit) => True) (fun _ => qS D cI cC cO A w) A
theorem pS_blind {D : va_G} {cI cC cO : ClassId} {sz : Nat} {w : va_W} {av : List Value} : FrameBlind (va_Pc av (pS D cI cC cO sz w)) := fun a U g mk q => by
  obtain ⟨q0, q1, qP, qK, qD, qN⟩ := q
  exact ⟨q0, q1, qP, va_K.moved (u := U) (U := U.calling g mk a) (Vm.Alike.refl U.vm) qK, qD, qN.same rfl⟩
theorem pS_pre {D : va_G} {cI cC cO : ClassId} {A : Nat → Prop} {w : va_W} {av : List Value} {s : State} {H : Heap} (hP : va_P D classes w H) (hK : va_K D classes (tysA cI cC cO) s) (hD : va_D A w) (hN : NW s) : ∀ U : State, U.heap = H → s.WarmedH U.vm → va_Pc av (pS D cI cC cO H.size w) av.toArray U :=
  fun U hU hW => ⟨rfl, by rw [hU], by rw [hU]; exact hP, va_K.moved hW.alike hK, hD.weaken (fun _ _ _ _ => trivial), hN.warm hW⟩
theorem fm_of {α : Type} {ws ws' : List α} {is : List Nat} (h : is.map (fun i => ws[i]?) = ws'.map some) : is.filterMap (fun i => ws[i]?) = ws' := by
  have e : is.filterMap (fun i => ws[i]?) = (is.map (fun i => ws[i]?)).filterMap id := by rw [List.filterMap_map]; rfl
  rw [e, h, List.filterMap_map]
  simp
theorem gI {c : Cond} (hc : c ∈ lw_g) : GoodIn lw_g (c :: lw_g) := fun w h => (List.mem_cons.mp h).elim (fun e => e ▸ ⟨hc, gd_all hc⟩) (fun h => ⟨h, gd_all h⟩)
section KC
variable {p : Program} {l : Launch} {e : Env} {R : Room} {s : State} {m : MethodId} {args : Array Value} {below : List Frame} {meth : Method} {c : Code} {H : Heap} {locs : List Loc} {cells slots : Nat} {Q : State → Prop}
variable {pc : Nat} {ls : Array Slot} {rest st0 : List Value} {a : Array Value} {A : Nat → Prop} {H0 : Heap} {D : va_G} {cI cC cO : ClassId} {ws wc wr wc' ws' : va_W}
variable {y : MethodName} {bytes cc : ByteArray} {maxL nL mc ms n index : Nat} {ret : Option FieldType} {rm : Room} {own C : String} {b : Addr} {As : List Value}
theorem cwv (n : Nat) (ht : ∀ w ∈ lw_g, w.before args s = true) (hcode : Cond.code y bytes maxL ret ∈ lw_g) (hini : Cond.initialized y.cls ∈ lw_g) (hl : Cond.methodLink own index y ∈ lw_g) (hin : Cond.instanceMethod y ∈ lw_g) (hsel : Cond.selects y.cls y y ∈ lw_g)
    (hd : y.cls ≠ "java/lang/invoke/MethodHandle" ∧ y.cls ≠ "java/lang/invoke/VarHandle" ∧ (parseMethodDescriptor y.desc).map (fun d => d.parameters.length) = some n) (hrc : rm.cells = mc) (hrs : rm.slots = ms) (hR : rm.frames + 1 ≤ R.frames ∧ 8 + (maxL + 11) + rm.locals ≤ R.locals) :
    CallW R s args own y.cls index y bytes maxL ret (Cond.code y bytes maxL ret :: lw_g) rm mc ms n :=
  ⟨callB_of n ht (gI hcode) rfl hrc hrs (ht _ hini) (ht _ hl) hd hR, ht _ hin, ht _ hsel⟩
theorem cwst (n : Nat) (ht : ∀ w ∈ lw_g, w.before args s = true) (hcode : Cond.code y bytes maxL ret ∈ lw_g) (hini : Cond.initialized y.cls ∈ lw_g) (hl : Cond.methodLink own index y ∈ lw_g) (hst : Cond.static y ∈ lw_g)
    (hd : y.cls ≠ "java/lang/invoke/MethodHandle" ∧ y.cls ≠ "java/lang/invoke/VarHandle" ∧ (parseMethodDescriptor y.desc).map (fun d => d.parameters.length) = some n) (hrc : rm.cells = mc) (hrs : rm.slots = ms) (hR : rm.frames + 1 ≤ R.frames ∧ 8 + (maxL + 11) + rm.locals ≤ R.locals) :
    CallB R s args own index y bytes maxL ret (Cond.code y bytes maxL ret :: lw_g) rm mc ms n ∧ (Cond.static y).before args s = true :=
  ⟨callB_of n ht (gI hcode) rfl hrc hrs (ht _ hini) (ht _ hl) hd hR, ht _ hst⟩
theorem mw_i {r : Int32} (hP : va_P D classes ws H) (hD : va_D A ws) (hS : va_S A H0 H locs) (hA : ∀ q, H0.size ≤ q → A q) (isC isR pm : List Nat) (hC : isC.map (fun i => ws[i]?) = wc.map some) (hR : isR.map (fun i => ws[i]?) = wr.map some) (hn : va_nd isR = true) (hdis : ∀ i ∈ isR, i ∉ isC) (hpm : pm.map (fun i => (wr ++ wc')[i]?) = ws'.map some) (hnp : va_nd pm = true)
    (hr : va_Run p l e R s m args below meth c H locs cells slots mc ms (F0 m pc ls st0) rest (QI D cI cC cO (va_A wc H.size) wc' r a) (va_A wc H.size))
    (kk : ∀ (H1 : Heap) (locs1 : List Loc), va_P D classes ws' H1 → va_D A ws' → va_S A H0 H1 locs1 → W p l e R s m args below meth c H1 locs1 (cells + mc) (slots + ms) Q (F0 m (pc + 3) ls (.int r :: rest))) : W p l e R s m args below meth c H locs cells slots Q (F0 m pc ls st0) := by
  have hF := va_free (wc := wc) hD hS hA isC hC
  refine va_calli hr hS (fun q _ h => hF q h) hF (fun r2 u t H1 locs1 ht hvm hw hB hz1 hk1 hS => ?_)
  cases hw
  obtain ⟨hP1, hK1, hD1⟩ := hB
  rw [ht] at hP1
  obtain ⟨hP2, hD2⟩ := va_join (wr := wr) (w1 := wc') hP hD isC isR hC hR hn hdis hk1 hF hP1 hD1
  exact kk H1 locs1 (hP2.sub pm (fm_of hpm)) (hD2.sub pm hnp hpm) hS
theorem mw_v (hP : va_P D classes ws H) (hD : va_D A ws) (hS : va_S A H0 H locs) (hA : ∀ q, H0.size ≤ q → A q) (isC isR pm : List Nat) (hC : isC.map (fun i => ws[i]?) = wc.map some) (hR : isR.map (fun i => ws[i]?) = wr.map some) (hn : va_nd isR = true) (hdis : ∀ i ∈ isR, i ∉ isC) (hpm : pm.map (fun i => (wr ++ wc')[i]?) = ws'.map some) (hnp : va_nd pm = true)
    (hr : va_Run p l e R s m args below meth c H locs cells slots mc ms (F0 m pc ls st0) rest (QV D cI cC cO (va_A wc H.size) wc' a) (va_A wc H.size))
    (kk : ∀ (H1 : Heap) (locs1 : List Loc), va_P D classes ws' H1 → va_D A ws' → va_S A H0 H1 locs1 → W p l e R s m args below meth c H1 locs1 (cells + mc) (slots + ms) Q (F0 m (pc + 3) ls rest)) : W p l e R s m args below meth c H locs cells slots Q (F0 m pc ls st0) := by
  have hF := va_free (wc := wc) hD hS hA isC hC
  refine va_callv hr hS (fun q _ h => hF q h) hF (fun u t H1 locs1 ht hvm hw hB hz1 hk1 hS => ?_)
  obtain ⟨hP1, hK1, hD1⟩ := hB
  rw [ht] at hP1
  obtain ⟨hP2, hD2⟩ := va_join (wr := wr) (w1 := wc') hP hD isC isR hC hR hn hdis hk1 hF hP1 hD1
  exact kk H1 locs1 (hP2.sub pm (fm_of hpm)) (hD2.sub pm hnp hpm) hS
theorem cl_Vi {r : Int32} {q : vw_C} {fs : List Value} (S : CallFix p m c cc nL s args lw_g own) (hM : Met l y (Cond.code y bytes maxL ret :: lw_g) rm (va_Pc (.ref b :: As) (pS D cI cC cO H.size wc)) (QI D cI cC cO (va_A wc H.size) wc' r) 0 0 (va_A wc H.size))
    (cw : CallW R s args own C index y bytes maxL ret (Cond.code y bytes maxL ret :: lw_g) rm 0 0 n) (ci q0 : Nat) (hc : classes[ci]? = some q) (hq : q.1 = C) (he : wc[q0]? = some (b, .inr (ci, fs)))
    (hK : va_K D classes (tysA cI cC cO) s) (hP : va_P D classes ws H) (hD : va_D A ws) (hS : va_S A H0 H locs) (hA : ∀ q, H0.size ≤ q → A q) (hN : NW s) (isC isR pm : List Nat) (hnC : va_nd isC = true) (hC : isC.map (fun i => ws[i]?) = wc.map some) (hR : isR.map (fun i => ws[i]?) = (isR.filterMap (fun i => ws[i]?)).map some) (hn : va_nd isR = true) (hdis : ∀ i ∈ isR, i ∉ isC) (hpm : pm.map (fun i => (isR.filterMap (fun i => ws[i]?) ++ wc')[i]?) = ws'.map some) (hnp : va_nd pm = true)
    (hAs : As.length = n) (hsz : ls.size = nL) (hst : st0 = As.reverse ++ .ref b :: rest) (hW : (rest.map fun v => v.category).sum ≤ 8) (hdg : decode cc pc = .ok (.invokevirtual index, 3)) (hf : cells ≤ R.cells ∧ slots ≤ R.slots)
    (kk : ∀ (H1 : Heap) (locs1 : List Loc), va_P D classes ws' H1 → va_D A ws' → va_S A H0 H1 locs1 → W p l e R s m args below meth c H1 locs1 cells slots Q (F0 m (pc + 3) ls (.int r :: rest))) : W p l e R s m args below meth c H locs cells slots Q (F0 m pc ls st0) := by
  subst hq
  have hPc := hP.sub isC (fm_of hC)
  have hDc := hD.sub isC hnC hC
  exact mw_i hP hD hS hA isC isR pm hC hR hn hdis hpm hnp (va_runV (As := As) (rest := rest) S hM cw ⟨pS_blind, va_recv hK hPc hc he, pS_pre hPc hK hDc hN⟩ rfl hAs hsz hst (lv_room hW) hdg hf) kk
theorem cl_Vv {q : vw_C} {fs : List Value} (S : CallFix p m c cc nL s args lw_g own) (hM : Met l y (Cond.code y bytes maxL ret :: lw_g) rm (va_Pc (.ref b :: As) (pS D cI cC cO H.size wc)) (QV D cI cC cO (va_A wc H.size) wc') 0 0 (va_A wc H.size))
    (cw : CallW R s args own C index y bytes maxL ret (Cond.code y bytes maxL ret :: lw_g) rm 0 0 n) (ci q0 : Nat) (hc : classes[ci]? = some q) (hq : q.1 = C) (he : wc[q0]? = some (b, .inr (ci, fs)))
    (hK : va_K D classes (tysA cI cC cO) s) (hP : va_P D classes ws H) (hD : va_D A ws) (hS : va_S A H0 H locs) (hA : ∀ q, H0.size ≤ q → A q) (hN : NW s) (isC isR pm : List Nat) (hnC : va_nd isC = true) (hC : isC.map (fun i => ws[i]?) = wc.map some) (hR : isR.map (fun i => ws[i]?) = (isR.filterMap (fun i => ws[i]?)).map some) (hn : va_nd isR = true) (hdis : ∀ i ∈ isR, i ∉ isC) (hpm : pm.map (fun i => (isR.filterMap (fun i => ws[i]?) ++ wc')[i]?) = ws'.map some) (hnp : va_nd pm = true)
    (hAs : As.length = n) (hsz : ls.size = nL) (hst : st0 = As.reverse ++ .ref b :: rest) (hW : (rest.map fun v => v.category).sum ≤ 8) (hdg : decode cc pc = .ok (.invokevirtual index, 3)) (hf : cells ≤ R.cells ∧ slots ≤ R.slots)
    (kk : ∀ (H1 : Heap) (locs1 : List Loc), va_P D classes ws' H1 → va_D A ws' → va_S A H0 H1 locs1 → W p l e R s m args below meth c H1 locs1 cells slots Q (F0 m (pc + 3) ls rest)) : W p l e R s m args below meth c H locs cells slots Q (F0 m pc ls st0) := by
  subst hq
  have hPc := hP.sub isC (fm_of hC)
  have hDc := hD.sub isC hnC hC
  exact mw_v hP hD hS hA isC isR pm hC hR hn hdis hpm hnp (va_runV (As := As) (rest := rest) S hM cw ⟨pS_blind, va_recv hK hPc hc he, pS_pre hPc hK hDc hN⟩ rfl hAs hsz hst (lv_room hW) hdg hf) kk
theorem cl_Si {r : Int32} (S : CallFix p m c cc nL s args lw_g own) (hM : Met l y (Cond.code y bytes maxL ret :: lw_g) rm (va_Pc As (pS D cI cC cO H.size wc)) (QI D cI cC cO (va_A wc H.size) wc' r) 0 0 (va_A wc H.size))
    (cw : CallB R s args own index y bytes maxL ret (Cond.code y bytes maxL ret :: lw_g) rm 0 0 n ∧ (Cond.static y).before args s = true) 
    (hK : va_K D classes (tysA cI cC cO) s) (hP : va_P D classes ws H) (hD : va_D A ws) (hS : va_S A H0 H locs) (hA : ∀ q, H0.size ≤ q → A q) (hN : NW s) (isC isR pm : List Nat) (hnC : va_nd isC = true) (hC : isC.map (fun i => ws[i]?) = wc.map some) (hR : isR.map (fun i => ws[i]?) = (isR.filterMap (fun i => ws[i]?)).map some) (hn : va_nd isR = true) (hdis : ∀ i ∈ isR, i ∉ isC) (hpm : pm.map (fun i => (isR.filterMap (fun i => ws[i]?) ++ wc')[i]?) = ws'.map some) (hnp : va_nd pm = true)
    (hAs : As.length = n) (hsz : ls.size = nL) (hst : st0 = As.reverse ++ rest) (hW : (rest.map fun v => v.category).sum ≤ 8) (hdg : decode cc pc = .ok (.invokestatic index, 3)) (hf : cells ≤ R.cells ∧ slots ≤ R.slots)
    (kk : ∀ (H1 : Heap) (locs1 : List Loc), va_P D classes ws' H1 → va_D A ws' → va_S A H0 H1 locs1 → W p l e R s m args below meth c H1 locs1 cells slots Q (F0 m (pc + 3) ls (.int r :: rest))) : W p l e R s m args below meth c H locs cells slots Q (F0 m pc ls st0) := by
  have hPc := hP.sub isC (fm_of hC)
  have hDc := hD.sub isC hnC hC
  exact mw_i hP hD hS hA isC isR pm hC hR hn hdis hpm hnp (va_runS (As := As) (rest := rest) S hM cw ⟨pS_blind, pS_pre hPc hK hDc hN⟩ rfl hAs hsz hst (lv_room hW) hdg hf) kk
theorem cl_Sv (S : CallFix p m c cc nL s args lw_g own) (hM : Met l y (Cond.code y bytes maxL ret :: lw_g) rm (va_Pc As (pS D cI cC cO H.size wc)) (QV D cI cC cO (va_A wc H.size) wc') 0 0 (va_A wc H.size))
    (cw : CallB R s args own index y bytes maxL ret (Cond.code y bytes maxL ret :: lw_g) rm 0 0 n ∧ (Cond.static y).before args s = true) 
    (hK : va_K D classes (tysA cI cC cO) s) (hP : va_P D classes ws H) (hD : va_D A ws) (hS : va_S A H0 H locs) (hA : ∀ q, H0.size ≤ q → A q) (hN : NW s) (isC isR pm : List Nat) (hnC : va_nd isC = true) (hC : isC.map (fun i => ws[i]?) = wc.map some) (hR : isR.map (fun i => ws[i]?) = (isR.filterMap (fun i => ws[i]?)).map some) (hn : va_nd isR = true) (hdis : ∀ i ∈ isR, i ∉ isC) (hpm : pm.map (fun i => (isR.filterMap (fun i => ws[i]?) ++ wc')[i]?) = ws'.map some) (hnp : va_nd pm = true)
    (hAs : As.length = n) (hsz : ls.size = nL) (hst : st0 = As.reverse ++ rest) (hW : (rest.map fun v => v.category).sum ≤ 8) (hdg : decode cc pc = .ok (.invokestatic index, 3)) (hf : cells ≤ R.cells ∧ slots ≤ R.slots)
    (kk : ∀ (H1 : Heap) (locs1 : List Loc), va_P D classes ws' H1 → va_D A ws' → va_S A H0 H1 locs1 → W p l e R s m args below meth c H1 locs1 cells slots Q (F0 m (pc + 3) ls rest)) : W p l e R s m args below meth c H locs cells slots Q (F0 m pc ls st0) := by
  have hPc := hP.sub isC (fm_of hC)
  have hDc := hD.sub isC hnC hC
  exact mw_v hP hD hS hA isC isR pm hC hR hn hdis hpm hnp (va_runS (As := As) (rest := rest) S hM cw ⟨pS_blind, pS_pre hPc hK hDc hN⟩ rfl hAs hsz hst (lv_room hW) hdg hf) kk
theorem cl_Ni {r : Int32} {host : String} (S : CallFix p m c cc nL s args lw_g own) (hM : Met l y (Cond.code y bytes maxL ret :: lw_g) rm (va_Pc As (pS D cI cC cO H.size wc)) (QI D cI cC cO (va_A wc H.size) wc' r) 0 0 (va_A wc H.size))
    (cw : va_CN R s args own index y host bytes maxL ret (Cond.code y bytes maxL ret :: lw_g) rm 0 0 n ∧ (Cond.static y).before args s = true ∧ True) 
    (hK : va_K D classes (tysA cI cC cO) s) (hP : va_P D classes ws H) (hD : va_D A ws) (hS : va_S A H0 H locs) (hA : ∀ q, H0.size ≤ q → A q) (hN : NW s) (isC isR pm : List Nat) (hnC : va_nd isC = true) (hC : isC.map (fun i => ws[i]?) = wc.map some) (hR : isR.map (fun i => ws[i]?) = (isR.filterMap (fun i => ws[i]?)).map some) (hn : va_nd isR = true) (hdis : ∀ i ∈ isR, i ∉ isC) (hpm : pm.map (fun i => (isR.filterMap (fun i => ws[i]?) ++ wc')[i]?) = ws'.map some) (hnp : va_nd pm = true)
    (hAs : As.length = n) (hsz : ls.size = nL) (hst : st0 = As.reverse ++ rest) (hW : (rest.map fun v => v.category).sum ≤ 8) (hdg : decode cc pc = .ok (.invokestatic index, 3)) (hf : cells ≤ R.cells ∧ slots ≤ R.slots)
    (kk : ∀ (H1 : Heap) (locs1 : List Loc), va_P D classes ws' H1 → va_D A ws' → va_S A H0 H1 locs1 → W p l e R s m args below meth c H1 locs1 cells slots Q (F0 m (pc + 3) ls (.int r :: rest))) : W p l e R s m args below meth c H locs cells slots Q (F0 m pc ls st0) := by
  have hPc := hP.sub isC (fm_of hC)
  have hDc := hD.sub isC hnC hC
  exact mw_i hP hD hS hA isC isR pm hC hR hn hdis hpm hnp (va_runSN (As := As) (rest := rest) S hM cw ⟨pS_blind, pS_pre hPc hK hDc hN⟩ rfl hAs hsz hst (lv_room hW) hdg hf) kk
end KC
