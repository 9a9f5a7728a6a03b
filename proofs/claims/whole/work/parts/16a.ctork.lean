abbrev zz : Mm := fun _ _ => 0
/-- a constructor's start -/
def pT (D : va_G) (cI cC cO : ClassId) (sz : Nat) (w : va_W) : State → Prop := fun U => pS D cI cC cO sz w U ∧ va_AO RX1 U
theorem pT_blind {D : va_G} {cI cC cO : ClassId} {sz : Nat} {w : va_W} {av : List Value} : FrameBlind (va_Pc av (pT D cI cC cO sz w)) := fun a U g mk q => by
  obtain ⟨q0, q1, q2⟩ := q
  exact ⟨q0, (pS_blind (av := av) a U g mk ⟨q0, q1⟩).2, va_AO.moved (u := U) (U := U.calling g mk a) (Vm.Alike.refl U.vm) q2⟩
theorem pT_pre {D : va_G} {cI cC cO : ClassId} {A : Nat → Prop} {w : va_W} {av : List Value} {s : State} {H : Heap} (hP : va_P D classes w H) (hK : va_K D classes (tysA cI cC cO) s) (hD : va_D A w) (hN : NW s) (hO : va_AO RX1 s) : ∀ U : State, U.heap = H → s.WarmedH U.vm → va_Pc av (pT D cI cC cO H.size w) av.toArray U :=
  fun U hU hW => ⟨rfl, (pS_pre (av := av) hP hK hD hN U hU hW).2, va_AO.moved hW.alike hO⟩
section KN
variable {p : Program} {l : Launch} {e : Env} {R : Room} {s : State} {m : MethodId} {args : Array Value} {below : List Frame} {meth : Method} {c : Code} {H : Heap} {locs : List Loc} {cells slots : Nat} {Q : State → Prop}
variable {pc : Nat} {ls : Array Slot} {rest st0 : List Value} {a : Array Value} {A : Nat → Prop} {H0 : Heap} {D : va_G} {cI cC cO : ClassId} {ws wc wr : va_W}
variable {y : MethodName} {bytes cc : ByteArray} {maxL nL mc ms n index : Nat} {rm : Room} {own : String} {b : Addr}
theorem nw_i (hx : p.tables.exec = Jvm.exec) (hb : c.code = cc) (harr : (Cond.arrayClass .int).before args s = true) (hK : va_K D classes (tysA cI cC cO) s) (hP : va_P D classes ws H) (hD : va_D A ws) (hS : va_S A H0 H locs) (hA : ∀ q, H0.size ≤ q → A q)
    {k : Int32} {N : Nat} (hn : ¬ k < 0) (hN : k.toNatClampNeg = N) (hbytes : N * 4 ≤ 536870912) (hcells : cells + 1 ≤ R.cells) (hslots : slots + N ≤ R.slots) (hdg : decode cc pc = .ok (.newarray .int, 2))
    (kk : ∀ (q : Nat) (H1 : Heap), va_P D classes (ws ++ [(q, .inl (cI, N, .inl (fun _ => 0)))]) H1 → va_D A (ws ++ [(q, .inl (cI, N, .inl (fun _ => 0)))]) → va_S A H0 H1 locs →
      W p l e R s m args below meth c H1 locs (cells + 1) (slots + N) Q (F0 m (pc + 2) ls (.ref q :: rest))) : W p l e R s m args below meth c H locs cells slots Q (F0 m pc ls (.int k :: rest)) := by
  refine va_newa (atype := .int) hx hb harr rfl hK hP hD hS hA (a0 := (N, .inl (fun _ => 0))) (fun cA => rfl) hn hN hbytes hcells hslots hdg (fun q cA H1 hK1 hP1 hD1 hS1 => ?_)
  have e1 : s.vm.findClass ("[" ++ (FieldType.int).toString) = some cA := (hK1.2 3 (cA, .int) rfl).2
  have e2 : s.vm.findClass ("[" ++ (FieldType.int).toString) = some cI := (hK.2 0 (cI, .int) rfl).2
  have e3 : cA = cI := Option.some.inj (e1.symm.trans e2)
  subst e3
  exact kk q H1 hP1 hD1 hS1
theorem nw_c (hx : p.tables.exec = Jvm.exec) (hb : c.code = cc) (harr : (Cond.arrayClass .char).before args s = true) (hK : va_K D classes (tysA cI cC cO) s) (hP : va_P D classes ws H) (hD : va_D A ws) (hS : va_S A H0 H locs) (hA : ∀ q, H0.size ≤ q → A q)
    {k : Int32} {N : Nat} (hn : ¬ k < 0) (hN : k.toNatClampNeg = N) (hbytes : N * 2 ≤ 536870912) (hcells : cells + 1 ≤ R.cells) (hslots : slots + N ≤ R.slots) (hdg : decode cc pc = .ok (.newarray .char, 2))
    (kk : ∀ (q : Nat) (H1 : Heap), va_P D classes (ws ++ [(q, .inl (cC, N, .inl (fun _ => 0)))]) H1 → va_D A (ws ++ [(q, .inl (cC, N, .inl (fun _ => 0)))]) → va_S A H0 H1 locs →
      W p l e R s m args below meth c H1 locs (cells + 1) (slots + N) Q (F0 m (pc + 2) ls (.ref q :: rest))) : W p l e R s m args below meth c H locs cells slots Q (F0 m pc ls (.int k :: rest)) := by
  refine va_newa (atype := .char) hx hb harr rfl hK hP hD hS hA (a0 := (N, .inl (fun _ => 0))) (fun cA => rfl) hn hN hbytes hcells hslots hdg (fun q cA H1 hK1 hP1 hD1 hS1 => ?_)
  have e1 : s.vm.findClass ("[" ++ (FieldType.char).toString) = some cA := (hK1.2 3 (cA, .char) rfl).2
  have e2 : s.vm.findClass ("[" ++ (FieldType.char).toString) = some cC := (hK.2 1 (cC, .char) rfl).2
  have e3 : cA = cC := Option.some.inj (e1.symm.trans e2)
  subst e3
  exact kk q H1 hP1 hD1 hS1
theorem nw_q (hx : p.tables.exec = Jvm.exec) (hb : c.code = cc) (hown : s.vm.findClass own = some m.cls) (hcl : (Cond.classLink own index RX1).before args s = true) (hO : va_AO RX1 s) (hK : va_K D classes (tysA cI cC cO) s) (hP : va_P D classes ws H) (hD : va_D A ws) (hS : va_S A H0 H locs) (hA : ∀ q, H0.size ≤ q → A q)
    {k : Int32} {N : Nat} (hn : ¬ k < 0) (hN : k.toNatClampNeg = N) (hbytes : N * 4 ≤ 536870912) (hcells : cells + 1 ≤ R.cells) (hslots : slots + N ≤ R.slots) (hdg : decode cc pc = .ok (.anewarray index, 3))
    (kk : ∀ (q : Nat) (H1 : Heap), va_P D classes (ws ++ [(q, .inl (cO, N, .inr (.inr (.inr (.inr (fun _ => none))))))]) H1 → va_D A (ws ++ [(q, .inl (cO, N, .inr (.inr (.inr (.inr (fun _ => none))))))]) → va_S A H0 H1 locs →
      W p l e R s m args below meth c H1 locs (cells + 1) (slots + N) Q (F0 m (pc + 3) ls (.ref q :: rest))) : W p l e R s m args below meth c H locs cells slots Q (F0 m pc ls (.int k :: rest)) := by
  refine va_newq hx hb hown hcl hO hK hP hD hS hA hn hN hbytes hcells hslots hdg (fun q cA H1 hK1 hP1 hD1 hS1 => ?_)
  have e1 := (hK1.2 3 (cA, .object RX1) rfl).2
  have e2 := (hK.2 2 (cO, .object RX1) rfl).2
  obtain ⟨kA, comp, f1, f2, f3, f4⟩ := e1
  obtain ⟨kB, comp2, g1, g2, g3, g4⟩ := e2
  have e3 : cA = cO := Option.some.inj (f4.symm.trans g4)
  subst e3
  exact kk q H1 hP1 hD1 hS1
theorem cwin (n : Nat) (ht : ∀ w ∈ lw_g, w.before args s = true) (hcode : Cond.code y bytes maxL none ∈ lw_g) (hini : Cond.initialized y.cls ∈ lw_g) (hl : Cond.methodLink own index y ∈ lw_g) (hin : Cond.instanceMethod y ∈ lw_g) (hy : y.name = "<init>")
    (hd : y.cls ≠ "java/lang/invoke/MethodHandle" ∧ y.cls ≠ "java/lang/invoke/VarHandle" ∧ (parseMethodDescriptor y.desc).map (fun d => d.parameters.length) = some n) (hrc : rm.cells = mc) (hrs : rm.slots = ms) (hR : rm.frames + 1 ≤ R.frames ∧ 8 + (maxL + 11) + rm.locals ≤ R.locals) :
    CallB R s args own index y bytes maxL none (Cond.code y bytes maxL none :: lw_g) rm mc ms n ∧ y.name = "<init>" ∧ (Cond.instanceMethod y).before args s = true :=
  ⟨callB_of n ht (gI hcode) rfl hrc hrs (ht _ hini) (ht _ hl) hd hR, hy, ht _ hin⟩
theorem mwp_c {S : Type} {post : S → Prop} {wcf : S → va_W} (hP : va_P D classes ws H) (hD : va_D A ws) (hS : va_S A H0 H locs) (hA : ∀ q, H0.size ≤ q → A q) (hp1 : ws.Perm (wc ++ wr))
    (hr : va_Run p l e R s m args below meth c H locs cells slots mc ms (F0 m pc ls st0) rest (va_Qv post (fun u => qS D cI cC cO (va_A wc H.size) (wcf u)) (va_A wc H.size) a) (va_A wc H.size))
    (kk : ∀ (u : S) (H1 : Heap) (locs1 : List Loc), post u → va_P D classes (wr ++ wcf u) H1 → va_D A (wr ++ wcf u) → va_S A H0 H1 locs1 → W p l e R s m args below meth c H1 locs1 (cells + mc) (slots + ms) Q (F0 m (pc + 3) ls rest)) : W p l e R s m args below meth c H locs cells slots Q (F0 m pc ls st0) := by
  have hP := va_P_perm hp1 hP
  have hD := va_D_perm hp1 hD
  have hF := va_free (wc := wc) hD hS hA (List.range wc.length) (rg_map wc wr)
  refine va_callv hr hS (fun q _ h => hF q h) hF (fun u t H1 locs1 ht hvm hw hB hz1 hk1 hS => ?_)
  obtain ⟨hP1, hK1, hD1⟩ := hB
  rw [ht] at hP1
  obtain ⟨hP2, hD2⟩ := va_join (wr := wr) (w1 := wcf u) hP hD (List.range wc.length) ((List.range wr.length).map (fun i => i + wc.length)) (rg_map wc wr) (rg_map2 wc wr) (va_nd_of (nd_sh _ _)) (dis_rg _ _) hk1 hF hP1 hD1
  exact kk u H1 locs1 hw hP2 hD2 hS
/-- a call of a constructor -/
theorem cq_I {S : Type} {post : S → Prop} {wcf : S → va_W} (X : CallFix p m c cc nL s args lw_g own) (hM : Met l y (Cond.code y bytes maxL none :: lw_g) rm (va_Pc [.ref b] (pT D cI cC cO H.size wc)) (va_Qv post (fun u => qS D cI cC cO (va_A wc H.size) (wcf u)) (va_A wc H.size)) mc ms (va_A wc H.size))
    (cw : CallB R s args own index y bytes maxL none (Cond.code y bytes maxL none :: lw_g) rm mc ms 0 ∧ y.name = "<init>" ∧ (Cond.instanceMethod y).before args s = true)
    (hK : va_K D classes (tysA cI cC cO) s) (hP : va_P D classes ws H) (hD : va_D A ws) (hS : va_S A H0 H locs) (hA : ∀ q, H0.size ≤ q → A q) (hN : NW s) (hO : va_AO RX1 s) (hp1 : ws.Perm (wc ++ wr))
    (hsz : ls.size = nL) (hst : st0 = .ref b :: rest) (hW : (rest.map fun v => v.category).sum ≤ 8) (hdg : decode cc pc = .ok (.invokespecial index, 3)) (hf : cells + mc ≤ R.cells ∧ slots + ms ≤ R.slots)
    (kk : ∀ (u : S) (H1 : Heap) (locs1 : List Loc), post u → va_P D classes (wr ++ wcf u) H1 → va_D A (wr ++ wcf u) → va_S A H0 H1 locs1 → W p l e R s m args below meth c H1 locs1 (cells + mc) (slots + ms) Q (F0 m (pc + 3) ls rest)) : W p l e R s m args below meth c H locs cells slots Q (F0 m pc ls st0) := by
  have hc1 := wc_of hP hD hp1
  exact mwp_c hP hD hS hA hp1 (va_runI (As := []) (rest := rest) X hM cw ⟨pT_blind, pT_pre hc1.1 hK hc1.2 hN hO⟩ rfl rfl hsz hst (lv_room hW) hdg hf) kk
theorem cq_N {S : Type} {post : S → Prop} {wcf : S → va_W} {host : String} (X : CallFix p m c cc nL s args lw_g own) (hM : Met l y (Cond.code y bytes maxL none :: lw_g) rm (va_Pc [.ref b] (pT D cI cC cO H.size wc)) (va_Qv post (fun u => qS D cI cC cO (va_A wc H.size) (wcf u)) (va_A wc H.size)) mc ms (va_A wc H.size))
    (cw : va_CN R s args own index y host bytes maxL none (Cond.code y bytes maxL none :: lw_g) rm mc ms 0 ∧ y.name = "<init>" ∧ (Cond.instanceMethod y).before args s = true)
    (hK : va_K D classes (tysA cI cC cO) s) (hP : va_P D classes ws H) (hD : va_D A ws) (hS : va_S A H0 H locs) (hA : ∀ q, H0.size ≤ q → A q) (hN : NW s) (hO : va_AO RX1 s) (hp1 : ws.Perm (wc ++ wr))
    (hsz : ls.size = nL) (hst : st0 = .ref b :: rest) (hW : (rest.map fun v => v.category).sum ≤ 8) (hdg : decode cc pc = .ok (.invokespecial index, 3)) (hf : cells + mc ≤ R.cells ∧ slots + ms ≤ R.slots)
    (kk : ∀ (u : S) (H1 : Heap) (locs1 : List Loc), post u → va_P D classes (wr ++ wcf u) H1 → va_D A (wr ++ wcf u) → va_S A H0 H1 locs1 → W p l e R s m args below meth c H1 locs1 (cells + mc) (slots + ms) Q (F0 m (pc + 3) ls rest)) : W p l e R s m args below meth c H locs cells slots Q (F0 m pc ls st0) := by
  have hc1 := wc_of hP hD hp1
  exact mwp_c hP hD hS hA hp1 (va_runIN (As := []) (rest := rest) X hM cw ⟨pT_blind, pT_pre hc1.1 hK hc1.2 hN hO⟩ rfl rfl hsz hst (lv_room hW) hdg hf) kk
theorem rt_c {S : Type} {post : S → Prop} {wf : S → va_W} (u : S) (hp : post u) (hx : p.tables.exec = Jvm.exec) (hb : c.code = cc) (hr : meth.sig.returnType = none) (hlocks : meth.locks = false) (hS : va_S A s.heap H locs) (hP : va_P D classes (wf u) H) (hK : va_K D classes (tysA cI cC cO) s) (hD : va_D A (wf u)) (hdg : decode cc pc = .ok (.return_, 1)) : W p l e R s m args below meth c H locs cells slots (MQ below (va_Qv post (fun u => qS D cI cC cO A (wf u)) A) args s cells slots A) (F0 m pc ls []) :=
  W.vret hx hb hr (fun t ht hW => ⟨⟨u, rfl, hp, qS_mk ht hW hP hK hD⟩, hS.F ht⟩) hS.2.2 hdg hlocks
end KN
theorem pm_l (w x : va_W) : (w ++ x).Perm (x ++ w) := List.perm_append_comm
theorem pm_f (c n l1 l2 l3 l4 : va_W) : (c ++ n ++ l1 ++ l2 ++ l3 ++ l4).Perm ((c ++ l1 ++ l2 ++ l3 ++ l4) ++ n) := by haveI : DecidableEq (Nat × va_E) := fun a b => Classical.propDecidable _; refine List.perm_iff_count.mpr (fun x => ?_); simp only [List.count_append]; omega
theorem row_ext {cA : ClassId} {n : Nat} {f g : Nat → Option Nat} (h : ∀ j, j < n → f j = g j) : vp_cell cA (n, .inr (.inr (.inr (.inr f)))) = vp_cell cA (n, .inr (.inr (.inr (.inr g)))) := by
  rw [vp_cell_q, vp_cell_q]
  unfold arrV
  congr 1
  congr 1
  funext j
  show va_rf (f j.val) = va_rf (g j.val)
  rw [h j.val j.isLt]
