def F_X0_init : Option (Mm × (Nat → Nat) × (Nat → Mm)) := b1 F_X1_init fun L => some (zz, (fun k => k), (fun _ => L))
theorem va_P_row {D : va_G} {cl : List vw_C} {H : Heap} {z : Nat × va_E} {q n : Nat} {cA : ClassId} {f g : Nat → Option Nat} {rest : va_W} (h : ∀ j, j < n → f j = g j) (hP : va_P D cl (z :: (q, .inl (cA, n, .inr (.inr (.inr (.inr f))))) :: rest) H) : va_P D cl (z :: (q, .inl (cA, n, .inr (.inr (.inr (.inr g))))) :: rest) H := by
  intro k x hk
  match k, hk with
  | 0, hk => exact hP 0 x hk
  | 1, hk =>
    cases hk
    have h1 := hP 1 (q, .inl (cA, n, .inr (.inr (.inr (.inr f))))) rfl
    show H[q]? = some (vp_cell cA (n, .inr (.inr (.inr (.inr g)))))
    rw [← row_ext h]
    exact h1
  | k + 2, hk => exact hP (k + 2) x hk
theorem va_D_row {A : Nat → Prop} {z : Nat × va_E} {q : Nat} {x y : va_E} {rest : va_W} (hD : va_D A (z :: (q, y) :: rest)) : va_D A (z :: (q, x) :: rest) := hD.set (p := 1) (e := x) rfl
theorem dX0_init_0 : decode cX0_init 0 = .ok (.aload_n 0, 1) := by decide +kernel
theorem dX0_init_1 : decode cX0_init 1 = .ok (.invokespecial 3, 3) := by decide +kernel
theorem dX0_init_4 : decode cX0_init 4 = .ok (.aload_n 0, 1) := by decide +kernel
theorem dX0_init_5 : decode cX0_init 5 = .ok (.iconst 4, 1) := by decide +kernel
theorem dX0_init_6 : decode cX0_init 6 = .ok (.anewarray 9, 3) := by decide +kernel
theorem dX0_init_9 : decode cX0_init 9 = .ok (.putfield 11, 3) := by decide +kernel
theorem dX0_init_12 : decode cX0_init 12 = .ok (.aload_n 0, 1) := by decide +kernel
theorem dX0_init_13 : decode cX0_init 13 = .ok (.iconst 0, 1) := by decide +kernel
theorem dX0_init_14 : decode cX0_init 14 = .ok (.putfield 17, 3) := by decide +kernel
theorem dX0_init_17 : decode cX0_init 17 = .ok (.iconst 0, 1) := by decide +kernel
theorem dX0_init_18 : decode cX0_init 18 = .ok (.istore_n 1, 1) := by decide +kernel
theorem dX0_init_19 : decode cX0_init 19 = .ok (.iload_n 1, 1) := by decide +kernel
theorem dX0_init_20 : decode cX0_init 20 = .ok (.iconst 4, 1) := by decide +kernel
theorem dX0_init_21 : decode cX0_init 21 = .ok (.if_icmp .ge 22, 3) := by decide +kernel
theorem dX0_init_24 : decode cX0_init 24 = .ok (.aload_n 0, 1) := by decide +kernel
theorem dX0_init_25 : decode cX0_init 25 = .ok (.getfield 11, 3) := by decide +kernel
theorem dX0_init_28 : decode cX0_init 28 = .ok (.iload_n 1, 1) := by decide +kernel
theorem dX0_init_29 : decode cX0_init 29 = .ok (.new 9, 3) := by decide +kernel
theorem dX0_init_32 : decode cX0_init 32 = .ok (.dup, 1) := by decide +kernel
theorem dX0_init_33 : decode cX0_init 33 = .ok (.invokespecial 21, 3) := by decide +kernel
theorem dX0_init_36 : decode cX0_init 36 = .ok (.aastore, 1) := by decide +kernel
theorem dX0_init_37 : decode cX0_init 37 = .ok (.iinc 1 1, 3) := by decide +kernel
theorem dX0_init_40 : decode cX0_init 40 = .ok (.goto (-21), 3) := by decide +kernel
theorem dX0_init_43 : decode cX0_init 43 = .ok (.return_, 1) := by decide +kernel
set_option maxHeartbeats 4000000 in
set_option maxRecDepth 100000 in
theorem c_X0_init (l : Launch) (D : va_G) (cI cC cO : ClassId) (h0 : Nat) (res : Mm × (Nat → Nat) × (Nat → Mm)) (sz : Nat) (h : F_X0_init = some res) : Met l yX0_init (Cond.code yX0_init cX0_init 2 (Option.none : Option Jvm.ClassFile.FieldType) :: lw_g) ({ frames := 2, cells := 17, slots := 312, locals := 32 } : Room) (va_Pc [.ref h0] (pT D cI cC cO sz [(h0, .inr (0, [.null, .int 0]))])) (va_Qv (fun (u : (Nat → Nat) × (Nat → Nat → Nat)) => u.1 0 = h0) (fun u => qS D cI cC cO (va_A [(h0, .inr (0, [.null, .int 0]))] sz) (wX0 u.1 u.2 cI cC cO res.1 res.2.1 res.2.2)) (va_A [(h0, .inr (0, [.null, .int 0]))] sz)) 17 312 (va_A [(h0, .inr (0, [.null, .int 0]))] sz) := by
  refine Met.ofW (cc := cX0_init) (maxL := 2) (ret := (Option.none : Option Jvm.ClassFile.FieldType)) (by decide) rfl ?_
  intro p e s m args below meth c s₁ B hml hv
  obtain ⟨rfl, ⟨rfl, hP, hK, hD0, hN⟩, hO⟩ := hv
  have hx := B.exec
  have hb := B.bytes
  have hr := B.returns
  have ht : ∀ w ∈ lw_g, w.before ([.ref h0] : List Value).toArray s = true := fun w hw => atoms_spec (ws := Cond.code yX0_init cX0_init 2 (Option.none : Option Jvm.ClassFile.FieldType) :: lw_g) B.pre w (List.mem_cons_of_mem _ hw)
  have hown : s.vm.findClass RX0 = some m.cls := findClass_of_methodNamed B.named
  have hlocks := B.notSynchronized
  have hin : meth.name = "<init>" := (name_of_methodNamed B.named B.method).1
  have hD := hD0.self (sz := s.heap.size)
  generalize hAe : va_A [(h0, .inr (0, [.null, .int 0]))] s.heap.size = A at hD ⊢
  have hA : ∀ q : Nat, s.heap.size ≤ q → A q := fun q hq => by rw [← hAe]; exact Or.inr hq
  have hS : va_S A s.heap s.heap [] := va_S.rf
  have hl := lv_entry ([.ref h0]) (n := 2) (Nat.le_of_ble_eq_true rfl)
  rw [lg_entry_eq]
  generalize (lg_sl ([.ref h0]) ++ List.replicate (2 - (lg_sl ([.ref h0])).length) Slot.unset).toArray = ls at hl ⊢
  have hl : lv_has ls 2 [(0, .ref h0)] := hl
  unfold F_X0_init at h
  refine lv_aload_n hx hb dX0_init_0 rfl (lv_at hl 0 rfl) ?_
  refine W.objInit hx hb hown (ht _ wd_55) (ht _ wd_16) (ht _ wd_17) rfl (hl.1.trans hml.symm) rfl dX0_init_1 (Nat.le_of_ble_eq_true rfl) (Nat.le_of_ble_eq_true rfl) ?_
  refine W.eq (g2 := F0 m 4 ls []) rfl ?_
  obtain ⟨L, eL, h⟩ := b1_ok h
  cases h
  refine lv_aload_n hx hb dX0_init_4 rfl (lv_at hl 0 rfl) ?_
  refine lv_iconst (v := (4 : Int32)) hx hb dX0_init_5 (by decide) ?_
  refine nw_q (N := 4) hx hb hown (ht _ wd_56) hO hK hP hD hS hA (by decide) (by decide) (Nat.le_of_ble_eq_true rfl) (Nat.le_of_ble_eq_true rfl) (Nat.le_of_ble_eq_true rfl) dX0_init_6 (fun q1 H hP hD hS => ?_)
  refine va_putF (D := D) (ci := 0) (v := .ref q1) (ty := .array (.object "PipeMoments$Layout")) (C := RX0) (T := TX0) (N := 2) hx hb ht i_X0 tyX0 tyX0_ok nmX0 hown hK hP hD hS 0 rfl rfl 0 (by decide) (ht _ wd_59) (fun _ h9 => h9) rfl hin rfl (by decide +kernel) rfl rfl (Nat.le_of_ble_eq_true rfl) dX0_init_9 (fun H locs hP hD hS => ?_)
  have hP : va_P D classes ([(h0, .inr (0, [.ref q1, .int 0]))] ++ [(q1, .inl (cO, 4, .inr (.inr (.inr (.inr (fun _ => none))))))]) H := hP
  have hD : va_D A ([(h0, .inr (0, [.ref q1, .int 0]))] ++ [(q1, .inl (cO, 4, .inr (.inr (.inr (.inr (fun _ => none))))))]) := hD
  refine lv_aload_n hx hb dX0_init_12 rfl (lv_at hl 0 rfl) ?_
  refine lv_iconst (v := (0 : Int32)) hx hb dX0_init_13 (by decide) ?_
  refine va_put (D := D) (ci := 0) (v := .int 0) (ty := .int) (C := RX0) (T := TX0) (N := 2) hx hb ht i_X0 tyX0 tyX0_ok nmX0 hown hK hP hD hS 0 rfl rfl 1 (by decide) (ht _ wd_60) (fun _ h9 => h9) rfl (by decide +kernel) rfl rfl (Nat.le_of_ble_eq_true rfl) dX0_init_14 (fun H locs hP hD hS => ?_)
  have hP : va_P D classes ([(h0, .inr (0, [.ref q1, .int 0]))] ++ [(q1, .inl (cO, 4, .inr (.inr (.inr (.inr (fun _ => none))))))]) H := hP
  have hD : va_D A ([(h0, .inr (0, [.ref q1, .int 0]))] ++ [(q1, .inl (cO, 4, .inr (.inr (.inr (.inr (fun _ => none))))))]) := hD
  refine lv_iconst (v := (0 : Int32)) hx hb dX0_init_17 (by decide) ?_
  refine lv_istore_n (lv' := [(1, .int 0), (0, .ref h0)]) hx hb dX0_init_18 rfl hl (by decide) rfl (fun ls hl => ?_)
  refine lv_iload_n hx hb dX0_init_19 rfl (lv_at hl 0 rfl) ?_
  refine lv_iconst (v := (4 : Int32)) hx hb dX0_init_20 (by decide) ?_
  refine lv_icmp_ge (tgt := 43) hx hb dX0_init_21 (by decide) (fun c1 => absurd c1 (by decide)) (fun _ => ?_)
  refine lv_aload_n hx hb dX0_init_24 rfl (lv_at hl 1 rfl) ?_
  refine va_get (D := D) (ci := 0) (v := .ref q1) (C := RX0) (T := TX0) (N := 2) hx hb ht i_X0 hown hK hP 0 rfl rfl 0 (by decide) (ht _ wd_59) (fun _ h9 => h9) rfl dX0_init_25 ?_
  refine lv_iload_n hx hb dX0_init_28 rfl (lv_at hl 0 rfl) ?_
  refine va_new (ci := 1) (fs := [.null, .null, .null, .int 0, .int 0]) (C := RX1) (T := TX1) (N := 5) hx hb ht i_X1 tyX1 tyX1_ok hown (ht _ wd_56) (ht _ wd_19) (ht _ wd_2) hK hP hD hS hA rfl (fun j hj => by rcases (show j = 0 ∨ j = 1 ∨ j = 2 ∨ j = 3 ∨ j = 4 by omega) with rfl | rfl | rfl | rfl | rfl <;> rfl) (Nat.le_of_ble_eq_true rfl) (Nat.le_of_ble_eq_true rfl) dX0_init_29 (fun p0 H hP hD hS => ?_)
  refine lv_dup hx hb dX0_init_32 rfl ?_
  refine cq_I ⟨hx, hb, hml, hown, ht⟩ (c_X1_init l D cI cC cO p0 L _ eL) (cwin 0 ht wd_22 wd_2 wd_58 wd_21 rfl (by decide +kernel) rfl rfl ⟨Nat.le_of_ble_eq_true rfl, Nat.le_of_ble_eq_true rfl⟩) hK hP hD hS hA hN hO (pm_l _ _) hl.1 rfl (Nat.le_of_ble_eq_true rfl) dX0_init_33 ⟨Nat.le_of_ble_eq_true rfl, Nat.le_of_ble_eq_true rfl⟩ (fun u0 H locs hu hP9 hD9 hS => ?_)
  have hu : p0 = u0 0 := hu.symm
  subst hu
  have hP : va_P D classes ([(h0, .inr (0, [.ref q1, .int 0]))] ++ [(q1, .inl (cO, 4, .inr (.inr (.inr (.inr (fun _ => none))))))] ++ (wX1 u0 cI cC cO L)) H := hP9
  have hD : va_D A ([(h0, .inr (0, [.ref q1, .int 0]))] ++ [(q1, .inl (cO, 4, .inr (.inr (.inr (.inr (fun _ => none))))))] ++ (wX1 u0 cI cC cO L)) := hD9
  refine va_astq (r := (RX1, TX1, 5)) hx hb hK hP hD hS 1 2 2 1 rfl rfl rfl rfl (vp_in_nI (n := 0) (by decide) (by decide)) dX0_init_36 (fun H locs hP hD hS => ?_)
  have hP : va_P D classes ([(h0, .inr (0, [.ref q1, .int 0]))] ++ [(q1, .inl (cO, 4, .inr (.inr (.inr (.inr (va_up (fun _ => none) (0 : Int32).toNatClampNeg (some (u0 0))))))))] ++ (wX1 u0 cI cC cO L)) H := hP
  have hD : va_D A ([(h0, .inr (0, [.ref q1, .int 0]))] ++ [(q1, .inl (cO, 4, .inr (.inr (.inr (.inr (va_up (fun _ => none) (0 : Int32).toNatClampNeg (some (u0 0))))))))] ++ (wX1 u0 cI cC cO L)) := hD
  refine lv_iinc (v := (1 : Int32)) (lv' := [(1, .int 1), (0, .ref h0)]) hx hb dX0_init_37 hl (k := 0) rfl (by decide) (by decide) rfl (fun ls hl => ?_)
  refine lv_goto (tgt := 19) hx hb dX0_init_40 (by decide) ?_
  refine lv_iload_n hx hb dX0_init_19 rfl (lv_at hl 0 rfl) ?_
  refine lv_iconst (v := (4 : Int32)) hx hb dX0_init_20 (by decide) ?_
  refine lv_icmp_ge (tgt := 43) hx hb dX0_init_21 (by decide) (fun c1 => absurd c1 (by decide)) (fun _ => ?_)
  refine lv_aload_n hx hb dX0_init_24 rfl (lv_at hl 1 rfl) ?_
  refine va_get (D := D) (ci := 0) (v := .ref q1) (C := RX0) (T := TX0) (N := 2) hx hb ht i_X0 hown hK hP 0 rfl rfl 0 (by decide) (ht _ wd_59) (fun _ h9 => h9) rfl dX0_init_25 ?_
  refine lv_iload_n hx hb dX0_init_28 rfl (lv_at hl 0 rfl) ?_
  refine va_new (ci := 1) (fs := [.null, .null, .null, .int 0, .int 0]) (C := RX1) (T := TX1) (N := 5) hx hb ht i_X1 tyX1 tyX1_ok hown (ht _ wd_56) (ht _ wd_19) (ht _ wd_2) hK hP hD hS hA rfl (fun j hj => by rcases (show j = 0 ∨ j = 1 ∨ j = 2 ∨ j = 3 ∨ j = 4 by omega) with rfl | rfl | rfl | rfl | rfl <;> rfl) (Nat.le_of_ble_eq_true rfl) (Nat.le_of_ble_eq_true rfl) dX0_init_29 (fun p1 H hP hD hS => ?_)
  refine lv_dup hx hb dX0_init_32 rfl ?_
  refine cq_I ⟨hx, hb, hml, hown, ht⟩ (c_X1_init l D cI cC cO p1 L _ eL) (cwin 0 ht wd_22 wd_2 wd_58 wd_21 rfl (by decide +kernel) rfl rfl ⟨Nat.le_of_ble_eq_true rfl, Nat.le_of_ble_eq_true rfl⟩) hK hP hD hS hA hN hO (pm_l _ _) hl.1 rfl (Nat.le_of_ble_eq_true rfl) dX0_init_33 ⟨Nat.le_of_ble_eq_true rfl, Nat.le_of_ble_eq_true rfl⟩ (fun u1 H locs hu hP9 hD9 hS => ?_)
  have hu : p1 = u1 0 := hu.symm
  subst hu
  have hP : va_P D classes ([(h0, .inr (0, [.ref q1, .int 0]))] ++ [(q1, .inl (cO, 4, .inr (.inr (.inr (.inr (va_up (fun _ => none) (0 : Int32).toNatClampNeg (some (u0 0))))))))] ++ (wX1 u0 cI cC cO L) ++ (wX1 u1 cI cC cO L)) H := hP9
  have hD : va_D A ([(h0, .inr (0, [.ref q1, .int 0]))] ++ [(q1, .inl (cO, 4, .inr (.inr (.inr (.inr (va_up (fun _ => none) (0 : Int32).toNatClampNeg (some (u0 0))))))))] ++ (wX1 u0 cI cC cO L) ++ (wX1 u1 cI cC cO L)) := hD9
  refine va_astq (r := (RX1, TX1, 5)) hx hb hK hP hD hS 1 2 6 1 rfl rfl rfl rfl (vp_in_nI (n := 1) (by decide) (by decide)) dX0_init_36 (fun H locs hP hD hS => ?_)
  have hP : va_P D classes ([(h0, .inr (0, [.ref q1, .int 0]))] ++ [(q1, .inl (cO, 4, .inr (.inr (.inr (.inr (va_up (va_up (fun _ => none) (0 : Int32).toNatClampNeg (some (u0 0))) (1 : Int32).toNatClampNeg (some (u1 0))))))))] ++ (wX1 u0 cI cC cO L) ++ (wX1 u1 cI cC cO L)) H := hP
  have hD : va_D A ([(h0, .inr (0, [.ref q1, .int 0]))] ++ [(q1, .inl (cO, 4, .inr (.inr (.inr (.inr (va_up (va_up (fun _ => none) (0 : Int32).toNatClampNeg (some (u0 0))) (1 : Int32).toNatClampNeg (some (u1 0))))))))] ++ (wX1 u0 cI cC cO L) ++ (wX1 u1 cI cC cO L)) := hD
  refine lv_iinc (v := (2 : Int32)) (lv' := [(1, .int 2), (0, .ref h0)]) hx hb dX0_init_37 hl (k := 0) rfl (by decide) (by decide) rfl (fun ls hl => ?_)
  refine lv_goto (tgt := 19) hx hb dX0_init_40 (by decide) ?_
  refine lv_iload_n hx hb dX0_init_19 rfl (lv_at hl 0 rfl) ?_
  refine lv_iconst (v := (4 : Int32)) hx hb dX0_init_20 (by decide) ?_
  refine lv_icmp_ge (tgt := 43) hx hb dX0_init_21 (by decide) (fun c1 => absurd c1 (by decide)) (fun _ => ?_)
  refine lv_aload_n hx hb dX0_init_24 rfl (lv_at hl 1 rfl) ?_
  refine va_get (D := D) (ci := 0) (v := .ref q1) (C := RX0) (T := TX0) (N := 2) hx hb ht i_X0 hown hK hP 0 rfl rfl 0 (by decide) (ht _ wd_59) (fun _ h9 => h9) rfl dX0_init_25 ?_
  refine lv_iload_n hx hb dX0_init_28 rfl (lv_at hl 0 rfl) ?_
  refine va_new (ci := 1) (fs := [.null, .null, .null, .int 0, .int 0]) (C := RX1) (T := TX1) (N := 5) hx hb ht i_X1 tyX1 tyX1_ok hown (ht _ wd_56) (ht _ wd_19) (ht _ wd_2) hK hP hD hS hA rfl (fun j hj => by rcases (show j = 0 ∨ j = 1 ∨ j = 2 ∨ j = 3 ∨ j = 4 by omega) with rfl | rfl | rfl | rfl | rfl <;> rfl) (Nat.le_of_ble_eq_true rfl) (Nat.le_of_ble_eq_true rfl) dX0_init_29 (fun p2 H hP hD hS => ?_)
  refine lv_dup hx hb dX0_init_32 rfl ?_
  refine cq_I ⟨hx, hb, hml, hown, ht⟩ (c_X1_init l D cI cC cO p2 L _ eL) (cwin 0 ht wd_22 wd_2 wd_58 wd_21 rfl (by decide +kernel) rfl rfl ⟨Nat.le_of_ble_eq_true rfl, Nat.le_of_ble_eq_true rfl⟩) hK hP hD hS hA hN hO (pm_l _ _) hl.1 rfl (Nat.le_of_ble_eq_true rfl) dX0_init_33 ⟨Nat.le_of_ble_eq_true rfl, Nat.le_of_ble_eq_true rfl⟩ (fun u2 H locs hu hP9 hD9 hS => ?_)
  have hu : p2 = u2 0 := hu.symm
  subst hu
  have hP : va_P D classes ([(h0, .inr (0, [.ref q1, .int 0]))] ++ [(q1, .inl (cO, 4, .inr (.inr (.inr (.inr (va_up (va_up (fun _ => none) (0 : Int32).toNatClampNeg (some (u0 0))) (1 : Int32).toNatClampNeg (some (u1 0))))))))] ++ (wX1 u0 cI cC cO L) ++ (wX1 u1 cI cC cO L) ++ (wX1 u2 cI cC cO L)) H := hP9
  have hD : va_D A ([(h0, .inr (0, [.ref q1, .int 0]))] ++ [(q1, .inl (cO, 4, .inr (.inr (.inr (.inr (va_up (va_up (fun _ => none) (0 : Int32).toNatClampNeg (some (u0 0))) (1 : Int32).toNatClampNeg (some (u1 0))))))))] ++ (wX1 u0 cI cC cO L) ++ (wX1 u1 cI cC cO L) ++ (wX1 u2 cI cC cO L)) := hD9
  refine va_astq (r := (RX1, TX1, 5)) hx hb hK hP hD hS 1 2 10 1 rfl rfl rfl rfl (vp_in_nI (n := 2) (by decide) (by decide)) dX0_init_36 (fun H locs hP hD hS => ?_)
  have hP : va_P D classes ([(h0, .inr (0, [.ref q1, .int 0]))] ++ [(q1, .inl (cO, 4, .inr (.inr (.inr (.inr (va_up (va_up (va_up (fun _ => none) (0 : Int32).toNatClampNeg (some (u0 0))) (1 : Int32).toNatClampNeg (some (u1 0))) (2 : Int32).toNatClampNeg (some (u2 0))))))))] ++ (wX1 u0 cI cC cO L) ++ (wX1 u1 cI cC cO L) ++ (wX1 u2 cI cC cO L)) H := hP
  have hD : va_D A ([(h0, .inr (0, [.ref q1, .int 0]))] ++ [(q1, .inl (cO, 4, .inr (.inr (.inr (.inr (va_up (va_up (va_up (fun _ => none) (0 : Int32).toNatClampNeg (some (u0 0))) (1 : Int32).toNatClampNeg (some (u1 0))) (2 : Int32).toNatClampNeg (some (u2 0))))))))] ++ (wX1 u0 cI cC cO L) ++ (wX1 u1 cI cC cO L) ++ (wX1 u2 cI cC cO L)) := hD
  refine lv_iinc (v := (3 : Int32)) (lv' := [(1, .int 3), (0, .ref h0)]) hx hb dX0_init_37 hl (k := 0) rfl (by decide) (by decide) rfl (fun ls hl => ?_)
  refine lv_goto (tgt := 19) hx hb dX0_init_40 (by decide) ?_
  refine lv_iload_n hx hb dX0_init_19 rfl (lv_at hl 0 rfl) ?_
  refine lv_iconst (v := (4 : Int32)) hx hb dX0_init_20 (by decide) ?_
  refine lv_icmp_ge (tgt := 43) hx hb dX0_init_21 (by decide) (fun c1 => absurd c1 (by decide)) (fun _ => ?_)
  refine lv_aload_n hx hb dX0_init_24 rfl (lv_at hl 1 rfl) ?_
  refine va_get (D := D) (ci := 0) (v := .ref q1) (C := RX0) (T := TX0) (N := 2) hx hb ht i_X0 hown hK hP 0 rfl rfl 0 (by decide) (ht _ wd_59) (fun _ h9 => h9) rfl dX0_init_25 ?_
  refine lv_iload_n hx hb dX0_init_28 rfl (lv_at hl 0 rfl) ?_
  refine va_new (ci := 1) (fs := [.null, .null, .null, .int 0, .int 0]) (C := RX1) (T := TX1) (N := 5) hx hb ht i_X1 tyX1 tyX1_ok hown (ht _ wd_56) (ht _ wd_19) (ht _ wd_2) hK hP hD hS hA rfl (fun j hj => by rcases (show j = 0 ∨ j = 1 ∨ j = 2 ∨ j = 3 ∨ j = 4 by omega) with rfl | rfl | rfl | rfl | rfl <;> rfl) (Nat.le_of_ble_eq_true rfl) (Nat.le_of_ble_eq_true rfl) dX0_init_29 (fun p3 H hP hD hS => ?_)
  refine lv_dup hx hb dX0_init_32 rfl ?_
  refine cq_I ⟨hx, hb, hml, hown, ht⟩ (c_X1_init l D cI cC cO p3 L _ eL) (cwin 0 ht wd_22 wd_2 wd_58 wd_21 rfl (by decide +kernel) rfl rfl ⟨Nat.le_of_ble_eq_true rfl, Nat.le_of_ble_eq_true rfl⟩) hK hP hD hS hA hN hO (pm_l _ _) hl.1 rfl (Nat.le_of_ble_eq_true rfl) dX0_init_33 ⟨Nat.le_of_ble_eq_true rfl, Nat.le_of_ble_eq_true rfl⟩ (fun u3 H locs hu hP9 hD9 hS => ?_)
  have hu : p3 = u3 0 := hu.symm
  subst hu
  have hP : va_P D classes ([(h0, .inr (0, [.ref q1, .int 0]))] ++ [(q1, .inl (cO, 4, .inr (.inr (.inr (.inr (va_up (va_up (va_up (fun _ => none) (0 : Int32).toNatClampNeg (some (u0 0))) (1 : Int32).toNatClampNeg (some (u1 0))) (2 : Int32).toNatClampNeg (some (u2 0))))))))] ++ (wX1 u0 cI cC cO L) ++ (wX1 u1 cI cC cO L) ++ (wX1 u2 cI cC cO L) ++ (wX1 u3 cI cC cO L)) H := hP9
  have hD : va_D A ([(h0, .inr (0, [.ref q1, .int 0]))] ++ [(q1, .inl (cO, 4, .inr (.inr (.inr (.inr (va_up (va_up (va_up (fun _ => none) (0 : Int32).toNatClampNeg (some (u0 0))) (1 : Int32).toNatClampNeg (some (u1 0))) (2 : Int32).toNatClampNeg (some (u2 0))))))))] ++ (wX1 u0 cI cC cO L) ++ (wX1 u1 cI cC cO L) ++ (wX1 u2 cI cC cO L) ++ (wX1 u3 cI cC cO L)) := hD9
  refine va_astq (r := (RX1, TX1, 5)) hx hb hK hP hD hS 1 2 14 1 rfl rfl rfl rfl (vp_in_nI (n := 3) (by decide) (by decide)) dX0_init_36 (fun H locs hP hD hS => ?_)
  have hP : va_P D classes ([(h0, .inr (0, [.ref q1, .int 0]))] ++ [(q1, .inl (cO, 4, .inr (.inr (.inr (.inr (va_up (va_up (va_up (va_up (fun _ => none) (0 : Int32).toNatClampNeg (some (u0 0))) (1 : Int32).toNatClampNeg (some (u1 0))) (2 : Int32).toNatClampNeg (some (u2 0))) (3 : Int32).toNatClampNeg (some (u3 0))))))))] ++ (wX1 u0 cI cC cO L) ++ (wX1 u1 cI cC cO L) ++ (wX1 u2 cI cC cO L) ++ (wX1 u3 cI cC cO L)) H := hP
  have hD : va_D A ([(h0, .inr (0, [.ref q1, .int 0]))] ++ [(q1, .inl (cO, 4, .inr (.inr (.inr (.inr (va_up (va_up (va_up (va_up (fun _ => none) (0 : Int32).toNatClampNeg (some (u0 0))) (1 : Int32).toNatClampNeg (some (u1 0))) (2 : Int32).toNatClampNeg (some (u2 0))) (3 : Int32).toNatClampNeg (some (u3 0))))))))] ++ (wX1 u0 cI cC cO L) ++ (wX1 u1 cI cC cO L) ++ (wX1 u2 cI cC cO L) ++ (wX1 u3 cI cC cO L)) := hD
  refine lv_iinc (v := (4 : Int32)) (lv' := [(1, .int 4), (0, .ref h0)]) hx hb dX0_init_37 hl (k := 0) rfl (by decide) (by decide) rfl (fun ls hl => ?_)
  refine lv_goto (tgt := 19) hx hb dX0_init_40 (by decide) ?_
  refine lv_iload_n hx hb dX0_init_19 rfl (lv_at hl 0 rfl) ?_
  refine lv_iconst (v := (4 : Int32)) hx hb dX0_init_20 (by decide) ?_
  refine lv_icmp_ge (tgt := 43) hx hb dX0_init_21 (by decide) (fun _ => ?_) (fun c1 => absurd (by decide) c1)
  have hP : va_P D classes ((h0, .inr (0, [.ref q1, .int 0])) :: (q1, .inl (cO, 4, .inr (.inr (.inr (.inr (va_up (va_up (va_up (va_up (fun _ => none) (0 : Int32).toNatClampNeg (some (u0 0))) (1 : Int32).toNatClampNeg (some (u1 0))) (2 : Int32).toNatClampNeg (some (u2 0))) (3 : Int32).toNatClampNeg (some (u3 0)))))))) :: (wX1 u0 cI cC cO L ++ (wX1 u1 cI cC cO L ++ (wX1 u2 cI cC cO L ++ wX1 u3 cI cC cO L)))) H := hP
  have hD : va_D A ((h0, .inr (0, [.ref q1, .int 0])) :: (q1, .inl (cO, 4, .inr (.inr (.inr (.inr (va_up (va_up (va_up (va_up (fun _ => none) (0 : Int32).toNatClampNeg (some (u0 0))) (1 : Int32).toNatClampNeg (some (u1 0))) (2 : Int32).toNatClampNeg (some (u2 0))) (3 : Int32).toNatClampNeg (some (u3 0)))))))) :: (wX1 u0 cI cC cO L ++ (wX1 u1 cI cC cO L ++ (wX1 u2 cI cC cO L ++ wX1 u3 cI cC cO L)))) := hD
  have e4 : ∀ j, j < 4 → (va_up (va_up (va_up (va_up (fun _ => none) (0 : Int32).toNatClampNeg (some (u0 0))) (1 : Int32).toNatClampNeg (some (u1 0))) (2 : Int32).toNatClampNeg (some (u2 0))) (3 : Int32).toNatClampNeg (some (u3 0))) j = (fun k : Nat => some ((fun k : Nat => if k = 0 then u0 else if k = 1 then u1 else if k = 2 then u2 else u3) k 0)) j := by intro j hj; rcases lt4 hj with rfl | rfl | rfl | rfl <;> rfl
  have hP := va_P_row e4 hP
  have hD := va_D_row (x := .inl (cO, 4, .inr (.inr (.inr (.inr (fun k : Nat => some ((fun k : Nat => if k = 0 then u0 else if k = 1 then u1 else if k = 2 then u2 else u3) k 0))))))) hD
  have hP : va_P D classes (wX0 (fun k : Nat => if k = 0 then h0 else q1) (fun k : Nat => if k = 0 then u0 else if k = 1 then u1 else if k = 2 then u2 else u3) cI cC cO zz (fun k => k) (fun _ => L)) H := hP
  have hD : va_D A (wX0 (fun k : Nat => if k = 0 then h0 else q1) (fun k : Nat => if k = 0 then u0 else if k = 1 then u1 else if k = 2 then u2 else u3) cI cC cO zz (fun k => k) (fun _ => L)) := hD
  exact rt_c ((fun k : Nat => if k = 0 then h0 else q1), (fun k : Nat => if k = 0 then u0 else if k = 1 then u1 else if k = 2 then u2 else u3)) rfl hx hb hr hlocks hS hP hK hD dX0_init_43
