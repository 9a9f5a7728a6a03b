theorem dX0_dropOldest_0 : decode cX0_dropOldest 0 = .ok (.aload_n 0, 1) := by decide +kernel
theorem dX0_dropOldest_1 : decode cX0_dropOldest 1 = .ok (.getfield 11, 3) := by decide +kernel
theorem dX0_dropOldest_4 : decode cX0_dropOldest 4 = .ok (.iconst 0, 1) := by decide +kernel
theorem dX0_dropOldest_5 : decode cX0_dropOldest 5 = .ok (.aaload, 1) := by decide +kernel
theorem dX0_dropOldest_6 : decode cX0_dropOldest 6 = .ok (.astore_n 1, 1) := by decide +kernel
theorem dX0_dropOldest_7 : decode cX0_dropOldest 7 = .ok (.iconst 1, 1) := by decide +kernel
theorem dX0_dropOldest_8 : decode cX0_dropOldest 8 = .ok (.istore_n 2, 1) := by decide +kernel
theorem dX0_dropOldest_9 : decode cX0_dropOldest 9 = .ok (.iload_n 2, 1) := by decide +kernel
theorem dX0_dropOldest_10 : decode cX0_dropOldest 10 = .ok (.iconst 4, 1) := by decide +kernel
theorem dX0_dropOldest_11 : decode cX0_dropOldest 11 = .ok (.if_icmp .ge 23, 3) := by decide +kernel
theorem dX0_dropOldest_14 : decode cX0_dropOldest 14 = .ok (.aload_n 0, 1) := by decide +kernel
theorem dX0_dropOldest_15 : decode cX0_dropOldest 15 = .ok (.getfield 11, 3) := by decide +kernel
theorem dX0_dropOldest_18 : decode cX0_dropOldest 18 = .ok (.iload_n 2, 1) := by decide +kernel
theorem dX0_dropOldest_19 : decode cX0_dropOldest 19 = .ok (.iconst 1, 1) := by decide +kernel
theorem dX0_dropOldest_20 : decode cX0_dropOldest 20 = .ok (.isub, 1) := by decide +kernel
theorem dX0_dropOldest_21 : decode cX0_dropOldest 21 = .ok (.aload_n 0, 1) := by decide +kernel
theorem dX0_dropOldest_22 : decode cX0_dropOldest 22 = .ok (.getfield 11, 3) := by decide +kernel
theorem dX0_dropOldest_25 : decode cX0_dropOldest 25 = .ok (.iload_n 2, 1) := by decide +kernel
theorem dX0_dropOldest_26 : decode cX0_dropOldest 26 = .ok (.aaload, 1) := by decide +kernel
theorem dX0_dropOldest_27 : decode cX0_dropOldest 27 = .ok (.aastore, 1) := by decide +kernel
theorem dX0_dropOldest_28 : decode cX0_dropOldest 28 = .ok (.iinc 2 1, 3) := by decide +kernel
theorem dX0_dropOldest_31 : decode cX0_dropOldest 31 = .ok (.goto (-22), 3) := by decide +kernel
theorem dX0_dropOldest_34 : decode cX0_dropOldest 34 = .ok (.aload_n 0, 1) := by decide +kernel
theorem dX0_dropOldest_35 : decode cX0_dropOldest 35 = .ok (.getfield 11, 3) := by decide +kernel
theorem dX0_dropOldest_38 : decode cX0_dropOldest 38 = .ok (.iconst 3, 1) := by decide +kernel
theorem dX0_dropOldest_39 : decode cX0_dropOldest 39 = .ok (.aload_n 1, 1) := by decide +kernel
theorem dX0_dropOldest_40 : decode cX0_dropOldest 40 = .ok (.aastore, 1) := by decide +kernel
theorem dX0_dropOldest_41 : decode cX0_dropOldest 41 = .ok (.aload_n 0, 1) := by decide +kernel
theorem dX0_dropOldest_42 : decode cX0_dropOldest 42 = .ok (.dup, 1) := by decide +kernel
theorem dX0_dropOldest_43 : decode cX0_dropOldest 43 = .ok (.getfield 17, 3) := by decide +kernel
theorem dX0_dropOldest_46 : decode cX0_dropOldest 46 = .ok (.iconst 1, 1) := by decide +kernel
theorem dX0_dropOldest_47 : decode cX0_dropOldest 47 = .ok (.isub, 1) := by decide +kernel
theorem dX0_dropOldest_48 : decode cX0_dropOldest 48 = .ok (.putfield 17, 3) := by decide +kernel
theorem dX0_dropOldest_51 : decode cX0_dropOldest 51 = .ok (.return_, 1) := by decide +kernel
set_option maxHeartbeats 4000000 in
set_option maxRecDepth 100000 in
theorem c_X0_dropOldest (l : Launch) (D : va_G) (cI cC cO : ClassId) (g : Nat → Nat) (ga : Nat → Nat → Nat) (K : Mm) (P : Nat → Nat) (Hs : Nat → Mm) (sz : Nat) (hq : P 0 < 4 ∧ P 1 < 4 ∧ P 2 < 4 ∧ P 3 < 4) : Met l yX0_dropOldest (Cond.code yX0_dropOldest cX0_dropOldest 3 (Option.none : Option Jvm.ClassFile.FieldType) :: lw_g) ({ frames := 0, cells := 0, slots := 0, locals := 0 } : Room) (va_Pc [.ref (g 0)] (pS D cI cC cO sz (wX0 g ga cI cC cO K P Hs))) (QV D cI cC cO (va_A (wX0 g ga cI cC cO K P Hs) sz) (wX0 g ga cI cC cO (va_up K 0 (upd (K 0) 0 (K 0 0 - 1))) (rot P) Hs)) 0 0 (va_A (wX0 g ga cI cC cO K P Hs) sz) := by
  refine Met.ofW (cc := cX0_dropOldest) (maxL := 3) (ret := (Option.none : Option Jvm.ClassFile.FieldType)) (by decide) rfl ?_
  intro p e s m args below meth c s₁ B hml hv
  obtain ⟨rfl, rfl, hP, hK, hD0, hN⟩ := hv
  have hx := B.exec
  have hb := B.bytes
  have hr := B.returns
  have ht : ∀ w ∈ lw_g, w.before ([.ref (g 0)] : List Value).toArray s = true := fun w hw => atoms_spec (ws := Cond.code yX0_dropOldest cX0_dropOldest 3 (Option.none : Option Jvm.ClassFile.FieldType) :: lw_g) B.pre w (List.mem_cons_of_mem _ hw)
  have hown : s.vm.findClass RX0 = some m.cls := findClass_of_methodNamed B.named
  have hlocks := B.notSynchronized
  have hD := hD0.self (sz := s.heap.size)
  generalize hAe : va_A (wX0 g ga cI cC cO K P Hs) s.heap.size = A at hD ⊢
  have hA : ∀ q : Nat, s.heap.size ≤ q → A q := fun q hq => by rw [← hAe]; exact Or.inr hq
  have hS : va_S A s.heap s.heap [] := va_S.rf
  have hl := lv_entry ([.ref (g 0)]) (n := 3) (Nat.le_of_ble_eq_true rfl)
  rw [lg_entry_eq]
  generalize (lg_sl ([.ref (g 0)]) ++ List.replicate (3 - (lg_sl ([.ref (g 0)])).length) Slot.unset).toArray = ls at hl ⊢
  have hl : lv_has ls 3 [(0, .ref (g 0))] := hl
  obtain ⟨q0, q1, q2, q3⟩ := hq
  refine lv_aload_n hx hb dX0_dropOldest_0 rfl (lv_at hl 0 rfl) ?_
  refine va_get (D := D) (ci := 0) (v := .ref (g 1)) (C := RX0) (T := TX0) (N := 2) hx hb ht i_X0 hown hK hP 0 rfl rfl 0 (by decide) (ht _ wd_59) (fun _ h9 => h9) rfl dX0_dropOldest_1 ?_
  refine lv_iconst (v := (0 : Int32)) hx hb dX0_dropOldest_4 (by decide) ?_
  refine va_aldq hx hb hK hP 1 2 rfl rfl (vp_in_nI (n := 0) (by decide) (by decide)) dX0_dropOldest_5 ?_
  refine W.eq (g2 := F0 m 6 ls [.ref (ga (P 0) 0)]) rfl ?_
  refine lv_astore_n (lv' := [(1, .ref (ga (P 0) 0)), (0, .ref (g 0))]) hx hb dX0_dropOldest_6 rfl hl (by decide) rfl (fun ls hl => ?_)
  refine lv_iconst (v := (1 : Int32)) hx hb dX0_dropOldest_7 (by decide) ?_
  refine lv_istore_n (lv' := [(2, .int 1), (1, .ref (ga (P 0) 0)), (0, .ref (g 0))]) hx hb dX0_dropOldest_8 rfl hl (by decide) rfl (fun ls hl => ?_)
  refine lv_iload_n hx hb dX0_dropOldest_9 rfl (lv_at hl 0 rfl) ?_
  refine lv_iconst (v := (4 : Int32)) hx hb dX0_dropOldest_10 (by decide) ?_
  refine lv_icmp_ge (tgt := 34) hx hb dX0_dropOldest_11 (by decide) (fun c1 => absurd c1 (by decide)) (fun _ => ?_)
  refine lv_aload_n hx hb dX0_dropOldest_14 rfl (lv_at hl 2 rfl) ?_
  refine va_get (D := D) (ci := 0) (v := .ref (g 1)) (C := RX0) (T := TX0) (N := 2) hx hb ht i_X0 hown hK hP 0 rfl rfl 0 (by decide) (ht _ wd_59) (fun _ h9 => h9) rfl dX0_dropOldest_15 ?_
  refine lv_iload_n hx hb dX0_dropOldest_18 rfl (lv_at hl 0 rfl) ?_
  refine lv_iconst (v := (1 : Int32)) hx hb dX0_dropOldest_19 (by decide) ?_
  refine lv_isub hx hb dX0_dropOldest_20 ?_
  refine lv_aload_n hx hb dX0_dropOldest_21 rfl (lv_at hl 2 rfl) ?_
  refine va_get (D := D) (ci := 0) (v := .ref (g 1)) (C := RX0) (T := TX0) (N := 2) hx hb ht i_X0 hown hK hP 0 rfl rfl 0 (by decide) (ht _ wd_59) (fun _ h9 => h9) rfl dX0_dropOldest_22 ?_
  refine lv_iload_n hx hb dX0_dropOldest_25 rfl (lv_at hl 0 rfl) ?_
  refine va_aldq hx hb hK hP 1 2 rfl rfl (vp_in_nI (n := 1) (by decide) (by decide)) dX0_dropOldest_26 ?_
  refine W.eq (g2 := F0 m 27 ls [.ref (ga (P 1) 0), .int ((1 : Int32) - 1), .ref (g 1)]) rfl ?_
  refine va_astq (r := (RX1, TX1, 5)) hx hb hK hP hD hS 1 2 (2 + 4 * P 1) 1 rfl rfl (hs_at g ga cI cC cO K P Hs q1) rfl (vp_in_nI (n := 0) (by decide) (by decide)) dX0_dropOldest_27 (fun H locs hP hD hS => ?_)
  rw [hs_set g ga cI cC cO K P Hs _ 0 (P 1) (by decide)] at hP hD
  refine lv_iinc (v := (2 : Int32)) (lv' := [(2, .int 2), (1, .ref (ga (P 0) 0)), (0, .ref (g 0))]) hx hb dX0_dropOldest_28 hl (k := 0) rfl (by decide) (by decide) rfl (fun ls hl => ?_)
  refine lv_goto (tgt := 9) hx hb dX0_dropOldest_31 (by decide) ?_
  refine lv_iload_n hx hb dX0_dropOldest_9 rfl (lv_at hl 0 rfl) ?_
  refine lv_iconst (v := (4 : Int32)) hx hb dX0_dropOldest_10 (by decide) ?_
  refine lv_icmp_ge (tgt := 34) hx hb dX0_dropOldest_11 (by decide) (fun c1 => absurd c1 (by decide)) (fun _ => ?_)
  refine lv_aload_n hx hb dX0_dropOldest_14 rfl (lv_at hl 2 rfl) ?_
  refine va_get (D := D) (ci := 0) (v := .ref (g 1)) (C := RX0) (T := TX0) (N := 2) hx hb ht i_X0 hown hK hP 0 rfl rfl 0 (by decide) (ht _ wd_59) (fun _ h9 => h9) rfl dX0_dropOldest_15 ?_
  refine lv_iload_n hx hb dX0_dropOldest_18 rfl (lv_at hl 0 rfl) ?_
  refine lv_iconst (v := (1 : Int32)) hx hb dX0_dropOldest_19 (by decide) ?_
  refine lv_isub hx hb dX0_dropOldest_20 ?_
  refine lv_aload_n hx hb dX0_dropOldest_21 rfl (lv_at hl 2 rfl) ?_
  refine va_get (D := D) (ci := 0) (v := .ref (g 1)) (C := RX0) (T := TX0) (N := 2) hx hb ht i_X0 hown hK hP 0 rfl rfl 0 (by decide) (ht _ wd_59) (fun _ h9 => h9) rfl dX0_dropOldest_22 ?_
  refine lv_iload_n hx hb dX0_dropOldest_25 rfl (lv_at hl 0 rfl) ?_
  refine va_aldq hx hb hK hP 1 2 rfl rfl (vp_in_nI (n := 2) (by decide) (by decide)) dX0_dropOldest_26 ?_
  refine W.eq (g2 := F0 m 27 ls [.ref (ga (P 2) 0), .int ((2 : Int32) - 1), .ref (g 1)]) rfl ?_
  refine va_astq (r := (RX1, TX1, 5)) hx hb hK hP hD hS 1 2 (2 + 4 * P 2) 1 rfl rfl (hs_at g ga cI cC cO K (va_up P 0 (P 1)) Hs q2) rfl (vp_in_nI (n := 1) (by decide) (by decide)) dX0_dropOldest_27 (fun H locs hP hD hS => ?_)
  rw [hs_set g ga cI cC cO K (va_up P 0 (P 1)) Hs _ 1 (P 2) (by decide)] at hP hD
  refine lv_iinc (v := (3 : Int32)) (lv' := [(2, .int 3), (1, .ref (ga (P 0) 0)), (0, .ref (g 0))]) hx hb dX0_dropOldest_28 hl (k := 0) rfl (by decide) (by decide) rfl (fun ls hl => ?_)
  refine lv_goto (tgt := 9) hx hb dX0_dropOldest_31 (by decide) ?_
  refine lv_iload_n hx hb dX0_dropOldest_9 rfl (lv_at hl 0 rfl) ?_
  refine lv_iconst (v := (4 : Int32)) hx hb dX0_dropOldest_10 (by decide) ?_
  refine lv_icmp_ge (tgt := 34) hx hb dX0_dropOldest_11 (by decide) (fun c1 => absurd c1 (by decide)) (fun _ => ?_)
  refine lv_aload_n hx hb dX0_dropOldest_14 rfl (lv_at hl 2 rfl) ?_
  refine va_get (D := D) (ci := 0) (v := .ref (g 1)) (C := RX0) (T := TX0) (N := 2) hx hb ht i_X0 hown hK hP 0 rfl rfl 0 (by decide) (ht _ wd_59) (fun _ h9 => h9) rfl dX0_dropOldest_15 ?_
  refine lv_iload_n hx hb dX0_dropOldest_18 rfl (lv_at hl 0 rfl) ?_
  refine lv_iconst (v := (1 : Int32)) hx hb dX0_dropOldest_19 (by decide) ?_
  refine lv_isub hx hb dX0_dropOldest_20 ?_
  refine lv_aload_n hx hb dX0_dropOldest_21 rfl (lv_at hl 2 rfl) ?_
  refine va_get (D := D) (ci := 0) (v := .ref (g 1)) (C := RX0) (T := TX0) (N := 2) hx hb ht i_X0 hown hK hP 0 rfl rfl 0 (by decide) (ht _ wd_59) (fun _ h9 => h9) rfl dX0_dropOldest_22 ?_
  refine lv_iload_n hx hb dX0_dropOldest_25 rfl (lv_at hl 0 rfl) ?_
  refine va_aldq hx hb hK hP 1 2 rfl rfl (vp_in_nI (n := 3) (by decide) (by decide)) dX0_dropOldest_26 ?_
  refine W.eq (g2 := F0 m 27 ls [.ref (ga (P 3) 0), .int ((3 : Int32) - 1), .ref (g 1)]) rfl ?_
  refine va_astq (r := (RX1, TX1, 5)) hx hb hK hP hD hS 1 2 (2 + 4 * P 3) 1 rfl rfl (hs_at g ga cI cC cO K (va_up (va_up P 0 (P 1)) 1 (P 2)) Hs q3) rfl (vp_in_nI (n := 2) (by decide) (by decide)) dX0_dropOldest_27 (fun H locs hP hD hS => ?_)
  rw [hs_set g ga cI cC cO K (va_up (va_up P 0 (P 1)) 1 (P 2)) Hs _ 2 (P 3) (by decide)] at hP hD
  refine lv_iinc (v := (4 : Int32)) (lv' := [(2, .int 4), (1, .ref (ga (P 0) 0)), (0, .ref (g 0))]) hx hb dX0_dropOldest_28 hl (k := 0) rfl (by decide) (by decide) rfl (fun ls hl => ?_)
  refine lv_goto (tgt := 9) hx hb dX0_dropOldest_31 (by decide) ?_
  refine lv_iload_n hx hb dX0_dropOldest_9 rfl (lv_at hl 0 rfl) ?_
  refine lv_iconst (v := (4 : Int32)) hx hb dX0_dropOldest_10 (by decide) ?_
  refine lv_icmp_ge (tgt := 34) hx hb dX0_dropOldest_11 (by decide) (fun _ => ?_) (fun c1 => absurd (by decide) c1)
  refine lv_aload_n hx hb dX0_dropOldest_34 rfl (lv_at hl 2 rfl) ?_
  refine va_get (D := D) (ci := 0) (v := .ref (g 1)) (C := RX0) (T := TX0) (N := 2) hx hb ht i_X0 hown hK hP 0 rfl rfl 0 (by decide) (ht _ wd_59) (fun _ h9 => h9) rfl dX0_dropOldest_35 ?_
  refine lv_iconst (v := (3 : Int32)) hx hb dX0_dropOldest_38 (by decide) ?_
  refine lv_aload_n hx hb dX0_dropOldest_39 rfl (lv_at hl 1 rfl) ?_
  refine va_astq (r := (RX1, TX1, 5)) hx hb hK hP hD hS 1 2 (2 + 4 * P 0) 1 rfl rfl (hs_at g ga cI cC cO K (va_up (va_up (va_up P 0 (P 1)) 1 (P 2)) 2 (P 3)) Hs q0) rfl (vp_in_nI (n := 3) (by decide) (by decide)) dX0_dropOldest_40 (fun H locs hP hD hS => ?_)
  rw [hs_set g ga cI cC cO K (va_up (va_up (va_up P 0 (P 1)) 1 (P 2)) 2 (P 3)) Hs _ 3 (P 0) (by decide)] at hP hD
  have hP : va_P D classes (wX0 g ga cI cC cO K (rot P) Hs) H := hP
  have hD : va_D A (wX0 g ga cI cC cO K (rot P) Hs) := hD
  refine lv_aload_n hx hb dX0_dropOldest_41 rfl (lv_at hl 2 rfl) ?_
  refine lv_dup hx hb dX0_dropOldest_42 rfl ?_
  refine va_get (D := D) (ci := 0) (v := .int (K 0 0)) (C := RX0) (T := TX0) (N := 2) hx hb ht i_X0 hown hK hP 0 rfl rfl 1 (by decide) (ht _ wd_60) (fun _ h9 => h9) rfl dX0_dropOldest_43 ?_
  refine lv_iconst (v := (1 : Int32)) hx hb dX0_dropOldest_46 (by decide) ?_
  refine lv_isub hx hb dX0_dropOldest_47 ?_
  refine va_put (D := D) (ci := 0) (v := .int (K 0 0 - 1)) (ty := .int) (C := RX0) (T := TX0) (N := 2) hx hb ht i_X0 tyX0 tyX0_ok nmX0 hown hK hP hD hS 0 rfl rfl 1 (by decide) (ht _ wd_60) (fun _ h9 => h9) rfl (by decide +kernel) rfl rfl (Nat.le_of_ble_eq_true rfl) dX0_dropOldest_48 (fun H locs hP hD hS => ?_)
  have hP : va_P D classes (wX0 g ga cI cC cO (va_up K 0 (upd (K 0) 0 (K 0 0 - 1))) (rot P) Hs) H := hP
  have hD : va_D A (wX0 g ga cI cC cO (va_up K 0 (upd (K 0) 0 (K 0 0 - 1))) (rot P) Hs) := hD
  exact rt_v hx hb hr hlocks hS hP hK hD dX0_dropOldest_51
theorem dX0_keep_0 : decode cX0_keep 0 = .ok (.aload_n 0, 1) := by decide +kernel
theorem dX0_keep_1 : decode cX0_keep 1 = .ok (.getfield 17, 3) := by decide +kernel
theorem dX0_keep_4 : decode cX0_keep 4 = .ok (.iconst 4, 1) := by decide +kernel
theorem dX0_keep_5 : decode cX0_keep 5 = .ok (.if_icmp .ne 7, 3) := by decide +kernel
theorem dX0_keep_8 : decode cX0_keep 8 = .ok (.aload_n 0, 1) := by decide +kernel
theorem dX0_keep_9 : decode cX0_keep 9 = .ok (.invokevirtual 22, 3) := by decide +kernel
theorem dX0_keep_12 : decode cX0_keep 12 = .ok (.aload_n 0, 1) := by decide +kernel
theorem dX0_keep_13 : decode cX0_keep 13 = .ok (.getfield 11, 3) := by decide +kernel
theorem dX0_keep_16 : decode cX0_keep 16 = .ok (.aload_n 0, 1) := by decide +kernel
theorem dX0_keep_17 : decode cX0_keep 17 = .ok (.getfield 17, 3) := by decide +kernel
theorem dX0_keep_20 : decode cX0_keep 20 = .ok (.aaload, 1) := by decide +kernel
theorem dX0_keep_21 : decode cX0_keep 21 = .ok (.aload_n 1, 1) := by decide +kernel
theorem dX0_keep_22 : decode cX0_keep 22 = .ok (.invokevirtual 25, 3) := by decide +kernel
theorem dX0_keep_25 : decode cX0_keep 25 = .ok (.aload_n 0, 1) := by decide +kernel
theorem dX0_keep_26 : decode cX0_keep 26 = .ok (.dup, 1) := by decide +kernel
theorem dX0_keep_27 : decode cX0_keep 27 = .ok (.getfield 17, 3) := by decide +kernel
theorem dX0_keep_30 : decode cX0_keep 30 = .ok (.iconst 1, 1) := by decide +kernel
theorem dX0_keep_31 : decode cX0_keep 31 = .ok (.iadd, 1) := by decide +kernel
theorem dX0_keep_32 : decode cX0_keep 32 = .ok (.putfield 17, 3) := by decide +kernel
theorem dX0_keep_35 : decode cX0_keep 35 = .ok (.return_, 1) := by decide +kernel
set_option maxHeartbeats 4000000 in
set_option maxRecDepth 100000 in
theorem c_X0_keep (l : Launch) (D : va_G) (cI cC cO : ClassId) (g : Nat → Nat) (ga : Nat → Nat → Nat) (b : Nat → Nat) (K : Mm) (P : Nat → Nat) (Hs : Nat → Mm) (O : Mm) (res : Mm × (Nat → Nat) × (Nat → Mm)) (sz : Nat) (h : F_X0_keep K P Hs O = some res) : Met l yX0_keep (Cond.code yX0_keep cX0_keep 2 (Option.none : Option Jvm.ClassFile.FieldType) :: lw_g) ({ frames := 2, cells := 0, slots := 0, locals := 81 } : Room) (va_Pc [.ref (g 0), .ref (b 0)] (pS D cI cC cO sz (wX0 g ga cI cC cO K P Hs ++ wX1 b cI cC cO O))) (QV D cI cC cO (va_A (wX0 g ga cI cC cO K P Hs ++ wX1 b cI cC cO O) sz) (wX0 g ga cI cC cO res.1 res.2.1 res.2.2 ++ wX1 b cI cC cO O)) 0 0 (va_A (wX0 g ga cI cC cO K P Hs ++ wX1 b cI cC cO O) sz) := by
  refine Met.ofW (cc := cX0_keep) (maxL := 2) (ret := (Option.none : Option Jvm.ClassFile.FieldType)) (by decide) rfl ?_
  intro p e s m args below meth c s₁ B hml hv
  obtain ⟨rfl, rfl, hP, hK, hD0, hN⟩ := hv
  have hx := B.exec
  have hb := B.bytes
  have hr := B.returns
  have ht : ∀ w ∈ lw_g, w.before ([.ref (g 0), .ref (b 0)] : List Value).toArray s = true := fun w hw => atoms_spec (ws := Cond.code yX0_keep cX0_keep 2 (Option.none : Option Jvm.ClassFile.FieldType) :: lw_g) B.pre w (List.mem_cons_of_mem _ hw)
  have hown : s.vm.findClass RX0 = some m.cls := findClass_of_methodNamed B.named
  have hlocks := B.notSynchronized
  have hD := hD0.self (sz := s.heap.size)
  generalize hAe : va_A (wX0 g ga cI cC cO K P Hs ++ wX1 b cI cC cO O) s.heap.size = A at hD ⊢
  have hA : ∀ q : Nat, s.heap.size ≤ q → A q := fun q hq => by rw [← hAe]; exact Or.inr hq
  have hS : va_S A s.heap s.heap [] := va_S.rf
  have hl := lv_entry ([.ref (g 0), .ref (b 0)]) (n := 2) (Nat.le_of_ble_eq_true rfl)
  rw [lg_entry_eq]
  generalize (lg_sl ([.ref (g 0), .ref (b 0)]) ++ List.replicate (2 - (lg_sl ([.ref (g 0), .ref (b 0)])).length) Slot.unset).toArray = ls at hl ⊢
  have hl : lv_has ls 2 [(0, .ref (g 0)), (1, .ref (b 0))] := hl
  have w12 : ∀ (K : Mm) (P : Nat → Nat) (H : Heap) (locs : List Loc) (ls : Array Slot), (b1 (F_X0_copyAt K P Hs O) fun Hs => some (va_up K 0 (upd (K 0) 0 (K 0 0 + 1)), P, Hs)) = some res → va_P D classes (wX0 g ga cI cC cO K P Hs ++ wX1 b cI cC cO O) H → va_D A (wX0 g ga cI cC cO K P Hs ++ wX1 b cI cC cO O) → va_S A s.heap H locs → lv_has ls 2 [(0, .ref (g 0)), (1, .ref (b 0))] → W p l e ({ frames := 2, cells := 0, slots := 0, locals := 81 } : Room) s m ([.ref (g 0), .ref (b 0)] : List Value).toArray below meth c H locs 0 0 (MQ below (QV D cI cC cO A (wX0 g ga cI cC cO res.1 res.2.1 res.2.2 ++ wX1 b cI cC cO O)) ([.ref (g 0), .ref (b 0)] : List Value).toArray s 0 0 A) (F0 m 12 ls []) := by
    intro K P H locs ls h hP hD hS hl
    obtain ⟨H2, e2, h⟩ := b1_ok h
    unfold F_X0_copyAt at e2
    obtain ⟨i1, e2⟩ := ck_ok e2
    have c2 : P (K 0 0).toNatClampNeg < 4 := by by_cases c2 : P (K 0 0).toNatClampNeg < 4; exact c2; rw [if_neg c2] at e2; cases e2
    replace e2 := fp c2 e2
    obtain ⟨L2, e3, e2⟩ := b1_ok e2
    cases e2; cases h
    refine lv_aload_n hx hb dX0_keep_12 rfl (lv_at hl 0 rfl) ?_
    refine va_get (D := D) (ci := 0) (v := .ref (g 1)) (C := RX0) (T := TX0) (N := 2) hx hb ht i_X0 hown hK hP 0 rfl rfl 0 (by decide) (ht _ wd_59) (fun _ h9 => h9) rfl dX0_keep_13 ?_
    refine lv_aload_n hx hb dX0_keep_16 rfl (lv_at hl 0 rfl) ?_
    refine va_get (D := D) (ci := 0) (v := .int (K 0 0)) (C := RX0) (T := TX0) (N := 2) hx hb ht i_X0 hown hK hP 0 rfl rfl 1 (by decide) (ht _ wd_60) (fun _ h9 => h9) rfl dX0_keep_17 ?_
    refine va_aldq hx hb hK hP 1 2 rfl rfl i1 dX0_keep_20 ?_
    refine W.eq (g2 := F0 m 21 ls [.ref (ga (P (K 0 0).toNatClampNeg) 0)]) rfl ?_
    refine lv_aload_n hx hb dX0_keep_21 rfl (lv_at hl 1 rfl) ?_
    have c3 := lt4 c2
    generalize P (K 0 0).toNatClampNeg = n4 at c2 c3 e3 ⊢
    rcases c3 with rfl | rfl | rfl | rfl
    · refine cl_Vv (ws' := (wX0 g ga cI cC cO K P (va_up Hs 0 L2) ++ wX1 b cI cC cO O)) ⟨hx, hb, hml, hown, ht⟩ (c_X1_copyFrom l D cI cC cO (ga 0) b (Hs 0) O _ _ e3) (cwv 1 ht wd_179 wd_2 wd_176 wd_177 wd_178 (by decide +kernel) rfl rfl ⟨Nat.le_of_ble_eq_true rfl, Nat.le_of_ble_eq_true rfl⟩) 1 0 rfl rfl rfl hK hP hD hS hA hN [2, 3, 4, 5, 18, 19, 20, 21] [0, 1, 6, 7, 8, 9, 10, 11, 12, 13, 14, 15, 16, 17] [0, 1, 14, 15, 16, 17, 2, 3, 4, 5, 6, 7, 8, 9, 10, 11, 12, 13, 18, 19, 20, 21] (by decide) rfl rfl (by decide) (by decide) rfl (by decide) rfl hl.1 rfl (Nat.le_of_ble_eq_true rfl) dX0_keep_22 ⟨Nat.le_of_ble_eq_true rfl, Nat.le_of_ble_eq_true rfl⟩ (fun H locs hP hD hS => ?_)
      refine lv_aload_n hx hb dX0_keep_25 rfl (lv_at hl 0 rfl) ?_
      refine lv_dup hx hb dX0_keep_26 rfl ?_
      refine va_get (D := D) (ci := 0) (v := .int (K 0 0)) (C := RX0) (T := TX0) (N := 2) hx hb ht i_X0 hown hK hP 0 rfl rfl 1 (by decide) (ht _ wd_60) (fun _ h9 => h9) rfl dX0_keep_27 ?_
      refine lv_iconst (v := (1 : Int32)) hx hb dX0_keep_30 (by decide) ?_
      refine lv_iadd hx hb dX0_keep_31 ?_
      refine va_put (D := D) (ci := 0) (v := .int (K 0 0 + 1)) (ty := .int) (C := RX0) (T := TX0) (N := 2) hx hb ht i_X0 tyX0 tyX0_ok nmX0 hown hK hP hD hS 0 rfl rfl 1 (by decide) (ht _ wd_60) (fun _ h9 => h9) rfl (by decide +kernel) rfl rfl (Nat.le_of_ble_eq_true rfl) dX0_keep_32 (fun H locs hP hD hS => ?_)
      have hP : va_P D classes (wX0 g ga cI cC cO (va_up K 0 (upd (K 0) 0 (K 0 0 + 1))) P (va_up Hs 0 L2) ++ wX1 b cI cC cO O) H := hP
      have hD : va_D A (wX0 g ga cI cC cO (va_up K 0 (upd (K 0) 0 (K 0 0 + 1))) P (va_up Hs 0 L2) ++ wX1 b cI cC cO O) := hD
      exact rt_v hx hb hr hlocks hS hP hK hD dX0_keep_35
    · refine cl_Vv (ws' := (wX0 g ga cI cC cO K P (va_up Hs 1 L2) ++ wX1 b cI cC cO O)) ⟨hx, hb, hml, hown, ht⟩ (c_X1_copyFrom l D cI cC cO (ga 1) b (Hs 1) O _ _ e3) (cwv 1 ht wd_179 wd_2 wd_176 wd_177 wd_178 (by decide +kernel) rfl rfl ⟨Nat.le_of_ble_eq_true rfl, Nat.le_of_ble_eq_true rfl⟩) 1 0 rfl rfl rfl hK hP hD hS hA hN [6, 7, 8, 9, 18, 19, 20, 21] [0, 1, 2, 3, 4, 5, 10, 11, 12, 13, 14, 15, 16, 17] [0, 1, 2, 3, 4, 5, 14, 15, 16, 17, 6, 7, 8, 9, 10, 11, 12, 13, 18, 19, 20, 21] (by decide) rfl rfl (by decide) (by decide) rfl (by decide) rfl hl.1 rfl (Nat.le_of_ble_eq_true rfl) dX0_keep_22 ⟨Nat.le_of_ble_eq_true rfl, Nat.le_of_ble_eq_true rfl⟩ (fun H locs hP hD hS => ?_)
      refine lv_aload_n hx hb dX0_keep_25 rfl (lv_at hl 0 rfl) ?_
      refine lv_dup hx hb dX0_keep_26 rfl ?_
      refine va_get (D := D) (ci := 0) (v := .int (K 0 0)) (C := RX0) (T := TX0) (N := 2) hx hb ht i_X0 hown hK hP 0 rfl rfl 1 (by decide) (ht _ wd_60) (fun _ h9 => h9) rfl dX0_keep_27 ?_
      refine lv_iconst (v := (1 : Int32)) hx hb dX0_keep_30 (by decide) ?_
      refine lv_iadd hx hb dX0_keep_31 ?_
      refine va_put (D := D) (ci := 0) (v := .int (K 0 0 + 1)) (ty := .int) (C := RX0) (T := TX0) (N := 2) hx hb ht i_X0 tyX0 tyX0_ok nmX0 hown hK hP hD hS 0 rfl rfl 1 (by decide) (ht _ wd_60) (fun _ h9 => h9) rfl (by decide +kernel) rfl rfl (Nat.le_of_ble_eq_true rfl) dX0_keep_32 (fun H locs hP hD hS => ?_)
      have hP : va_P D classes (wX0 g ga cI cC cO (va_up K 0 (upd (K 0) 0 (K 0 0 + 1))) P (va_up Hs 1 L2) ++ wX1 b cI cC cO O) H := hP
      have hD : va_D A (wX0 g ga cI cC cO (va_up K 0 (upd (K 0) 0 (K 0 0 + 1))) P (va_up Hs 1 L2) ++ wX1 b cI cC cO O) := hD
      exact rt_v hx hb hr hlocks hS hP hK hD dX0_keep_35
    · refine cl_Vv (ws' := (wX0 g ga cI cC cO K P (va_up Hs 2 L2) ++ wX1 b cI cC cO O)) ⟨hx, hb, hml, hown, ht⟩ (c_X1_copyFrom l D cI cC cO (ga 2) b (Hs 2) O _ _ e3) (cwv 1 ht wd_179 wd_2 wd_176 wd_177 wd_178 (by decide +kernel) rfl rfl ⟨Nat.le_of_ble_eq_true rfl, Nat.le_of_ble_eq_true rfl⟩) 1 0 rfl rfl rfl hK hP hD hS hA hN [10, 11, 12, 13, 18, 19, 20, 21] [0, 1, 2, 3, 4, 5, 6, 7, 8, 9, 14, 15, 16, 17] [0, 1, 2, 3, 4, 5, 6, 7, 8, 9, 14, 15, 16, 17, 10, 11, 12, 13, 18, 19, 20, 21] (by decide) rfl rfl (by decide) (by decide) rfl (by decide) rfl hl.1 rfl (Nat.le_of_ble_eq_true rfl) dX0_keep_22 ⟨Nat.le_of_ble_eq_true rfl, Nat.le_of_ble_eq_true rfl⟩ (fun H locs hP hD hS => ?_)
      refine lv_aload_n hx hb dX0_keep_25 rfl (lv_at hl 0 rfl) ?_
      refine lv_dup hx hb dX0_keep_26 rfl ?_
      refine va_get (D := D) (ci := 0) (v := .int (K 0 0)) (C := RX0) (T := TX0) (N := 2) hx hb ht i_X0 hown hK hP 0 rfl rfl 1 (by decide) (ht _ wd_60) (fun _ h9 => h9) rfl dX0_keep_27 ?_
      refine lv_iconst (v := (1 : Int32)) hx hb dX0_keep_30 (by decide) ?_
      refine lv_iadd hx hb dX0_keep_31 ?_
      refine va_put (D := D) (ci := 0) (v := .int (K 0 0 + 1)) (ty := .int) (C := RX0) (T := TX0) (N := 2) hx hb ht i_X0 tyX0 tyX0_ok nmX0 hown hK hP hD hS 0 rfl rfl 1 (by decide) (ht _ wd_60) (fun _ h9 => h9) rfl (by decide +kernel) rfl rfl (Nat.le_of_ble_eq_true rfl) dX0_keep_32 (fun H locs hP hD hS => ?_)
      have hP : va_P D classes (wX0 g ga cI cC cO (va_up K 0 (upd (K 0) 0 (K 0 0 + 1))) P (va_up Hs 2 L2) ++ wX1 b cI cC cO O) H := hP
      have hD : va_D A (wX0 g ga cI cC cO (va_up K 0 (upd (K 0) 0 (K 0 0 + 1))) P (va_up Hs 2 L2) ++ wX1 b cI cC cO O) := hD
      exact rt_v hx hb hr hlocks hS hP hK hD dX0_keep_35
    · refine cl_Vv (ws' := (wX0 g ga cI cC cO K P (va_up Hs 3 L2) ++ wX1 b cI cC cO O)) ⟨hx, hb, hml, hown, ht⟩ (c_X1_copyFrom l D cI cC cO (ga 3) b (Hs 3) O _ _ e3) (cwv 1 ht wd_179 wd_2 wd_176 wd_177 wd_178 (by decide +kernel) rfl rfl ⟨Nat.le_of_ble_eq_true rfl, Nat.le_of_ble_eq_true rfl⟩) 1 0 rfl rfl rfl hK hP hD hS hA hN [14, 15, 16, 17, 18, 19, 20, 21] [0, 1, 2, 3, 4, 5, 6, 7, 8, 9, 10, 11, 12, 13] [0, 1, 2, 3, 4, 5, 6, 7, 8, 9, 10, 11, 12, 13, 14, 15, 16, 17, 18, 19, 20, 21] (by decide) rfl rfl (by decide) (by decide) rfl (by decide) rfl hl.1 rfl (Nat.le_of_ble_eq_true rfl) dX0_keep_22 ⟨Nat.le_of_ble_eq_true rfl, Nat.le_of_ble_eq_true rfl⟩ (fun H locs hP hD hS => ?_)
      refine lv_aload_n hx hb dX0_keep_25 rfl (lv_at hl 0 rfl) ?_
      refine lv_dup hx hb dX0_keep_26 rfl ?_
      refine va_get (D := D) (ci := 0) (v := .int (K 0 0)) (C := RX0) (T := TX0) (N := 2) hx hb ht i_X0 hown hK hP 0 rfl rfl 1 (by decide) (ht _ wd_60) (fun _ h9 => h9) rfl dX0_keep_27 ?_
      refine lv_iconst (v := (1 : Int32)) hx hb dX0_keep_30 (by decide) ?_
      refine lv_iadd hx hb dX0_keep_31 ?_
      refine va_put (D := D) (ci := 0) (v := .int (K 0 0 + 1)) (ty := .int) (C := RX0) (T := TX0) (N := 2) hx hb ht i_X0 tyX0 tyX0_ok nmX0 hown hK hP hD hS 0 rfl rfl 1 (by decide) (ht _ wd_60) (fun _ h9 => h9) rfl (by decide +kernel) rfl rfl (Nat.le_of_ble_eq_true rfl) dX0_keep_32 (fun H locs hP hD hS => ?_)
      have hP : va_P D classes (wX0 g ga cI cC cO (va_up K 0 (upd (K 0) 0 (K 0 0 + 1))) P (va_up Hs 3 L2) ++ wX1 b cI cC cO O) H := hP
      have hD : va_D A (wX0 g ga cI cC cO (va_up K 0 (upd (K 0) 0 (K 0 0 + 1))) P (va_up Hs 3 L2) ++ wX1 b cI cC cO O) := hD
      exact rt_v hx hb hr hlocks hS hP hK hD dX0_keep_35
  unfold F_X0_keep at h
  refine lv_aload_n hx hb dX0_keep_0 rfl (lv_at hl 0 rfl) ?_
  refine va_get (D := D) (ci := 0) (v := .int (K 0 0)) (C := RX0) (T := TX0) (N := 2) hx hb ht i_X0 hown hK hP 0 rfl rfl 1 (by decide) (ht _ wd_60) (fun _ h9 => h9) rfl dX0_keep_1 ?_
  refine lv_iconst (v := (4 : Int32)) hx hb dX0_keep_4 (by decide) ?_
  refine lv_icmp_ne (tgt := 12) hx hb dX0_keep_5 (by decide) (fun c1 => ?_) (fun c1 => ?_)
  · replace h := fn c1 h
    exact w12 K P _ _ ls h hP hD hS hl
  · replace h := fp c1 h
    obtain ⟨K2, P2, e2, h⟩ := b2_ok h
    unfold F_X0_dropOldest at e2
    have hq : P 0 < 4 ∧ P 1 < 4 ∧ P 2 < 4 ∧ P 3 < 4 := by by_cases c2 : P 0 < 4 ∧ P 1 < 4 ∧ P 2 < 4 ∧ P 3 < 4; exact c2; rw [if_neg c2] at e2; cases e2
    replace e2 := fp hq e2
    cases e2
    refine lv_aload_n hx hb dX0_keep_8 rfl (lv_at hl 0 rfl) ?_
    refine cl_Vv (ws' := (wX0 g ga cI cC cO (va_up K 0 (upd (K 0) 0 (K 0 0 - 1))) (rot P) Hs ++ wX1 b cI cC cO O)) ⟨hx, hb, hml, hown, ht⟩ (c_X0_dropOldest l D cI cC cO g ga K P Hs _ hq) (cwv 0 ht wd_175 wd_3 wd_172 wd_174 ws_0 (by decide +kernel) rfl rfl ⟨Nat.le_of_ble_eq_true rfl, Nat.le_of_ble_eq_true rfl⟩) 0 0 rfl rfl rfl hK hP hD hS hA hN [0, 1, 2, 3, 4, 5, 6, 7, 8, 9, 10, 11, 12, 13, 14, 15, 16, 17] [18, 19, 20, 21] [4, 5, 6, 7, 8, 9, 10, 11, 12, 13, 14, 15, 16, 17, 18, 19, 20, 21, 0, 1, 2, 3] (by decide) rfl rfl (by decide) (by decide) rfl (by decide) rfl hl.1 rfl (Nat.le_of_ble_eq_true rfl) dX0_keep_9 ⟨Nat.le_of_ble_eq_true rfl, Nat.le_of_ble_eq_true rfl⟩ (fun H locs hP hD hS => ?_)
    exact w12 _ _ _ _ ls h hP hD hS hl
theorem dX0_restore_0 : decode cX0_restore 0 = .ok (.aload_n 0, 1) := by decide +kernel
theorem dX0_restore_1 : decode cX0_restore 1 = .ok (.dup, 1) := by decide +kernel
theorem dX0_restore_2 : decode cX0_restore 2 = .ok (.getfield 17, 3) := by decide +kernel
theorem dX0_restore_5 : decode cX0_restore 5 = .ok (.iconst 1, 1) := by decide +kernel
theorem dX0_restore_6 : decode cX0_restore 6 = .ok (.isub, 1) := by decide +kernel
theorem dX0_restore_7 : decode cX0_restore 7 = .ok (.putfield 17, 3) := by decide +kernel
theorem dX0_restore_10 : decode cX0_restore 10 = .ok (.aload_n 1, 1) := by decide +kernel
theorem dX0_restore_11 : decode cX0_restore 11 = .ok (.aload_n 0, 1) := by decide +kernel
theorem dX0_restore_12 : decode cX0_restore 12 = .ok (.getfield 11, 3) := by decide +kernel
theorem dX0_restore_15 : decode cX0_restore 15 = .ok (.aload_n 0, 1) := by decide +kernel
theorem dX0_restore_16 : decode cX0_restore 16 = .ok (.getfield 17, 3) := by decide +kernel
theorem dX0_restore_19 : decode cX0_restore 19 = .ok (.aaload, 1) := by decide +kernel
theorem dX0_restore_20 : decode cX0_restore 20 = .ok (.invokevirtual 25, 3) := by decide +kernel
theorem dX0_restore_23 : decode cX0_restore 23 = .ok (.return_, 1) := by decide +kernel
set_option maxHeartbeats 4000000 in
set_option maxRecDepth 100000 in
theorem c_X0_restore (l : Launch) (D : va_G) (cI cC cO : ClassId) (g : Nat → Nat) (ga : Nat → Nat → Nat) (b : Nat → Nat) (K : Mm) (P : Nat → Nat) (Hs : Nat → Mm) (O : Mm) (res : Mm × Mm) (sz : Nat) (h : F_X0_restore K P Hs O = some res) : Met l yX0_restore (Cond.code yX0_restore cX0_restore 2 (Option.none : Option Jvm.ClassFile.FieldType) :: lw_g) ({ frames := 2, cells := 0, slots := 0, locals := 81 } : Room) (va_Pc [.ref (g 0), .ref (b 0)] (pS D cI cC cO sz (wX0 g ga cI cC cO K P Hs ++ wX1 b cI cC cO O))) (QV D cI cC cO (va_A (wX0 g ga cI cC cO K P Hs ++ wX1 b cI cC cO O) sz) (wX0 g ga cI cC cO res.1 P Hs ++ wX1 b cI cC cO res.2)) 0 0 (va_A (wX0 g ga cI cC cO K P Hs ++ wX1 b cI cC cO O) sz) := by
  refine Met.ofW (cc := cX0_restore) (maxL := 2) (ret := (Option.none : Option Jvm.ClassFile.FieldType)) (by decide) rfl ?_
  intro p e s m args below meth c s₁ B hml hv
  obtain ⟨rfl, rfl, hP, hK, hD0, hN⟩ := hv
  have hx := B.exec
  have hb := B.bytes
  have hr := B.returns
  have ht : ∀ w ∈ lw_g, w.before ([.ref (g 0), .ref (b 0)] : List Value).toArray s = true := fun w hw => atoms_spec (ws := Cond.code yX0_restore cX0_restore 2 (Option.none : Option Jvm.ClassFile.FieldType) :: lw_g) B.pre w (List.mem_cons_of_mem _ hw)
  have hown : s.vm.findClass RX0 = some m.cls := findClass_of_methodNamed B.named
  have hlocks := B.notSynchronized
  have hD := hD0.self (sz := s.heap.size)
  generalize hAe : va_A (wX0 g ga cI cC cO K P Hs ++ wX1 b cI cC cO O) s.heap.size = A at hD ⊢
  have hA : ∀ q : Nat, s.heap.size ≤ q → A q := fun q hq => by rw [← hAe]; exact Or.inr hq
  have hS : va_S A s.heap s.heap [] := va_S.rf
  have hl := lv_entry ([.ref (g 0), .ref (b 0)]) (n := 2) (Nat.le_of_ble_eq_true rfl)
  rw [lg_entry_eq]
  generalize (lg_sl ([.ref (g 0), .ref (b 0)]) ++ List.replicate (2 - (lg_sl ([.ref (g 0), .ref (b 0)])).length) Slot.unset).toArray = ls at hl ⊢
  have hl : lv_has ls 2 [(0, .ref (g 0)), (1, .ref (b 0))] := hl
  unfold F_X0_restore at h
  refine lv_aload_n hx hb dX0_restore_0 rfl (lv_at hl 0 rfl) ?_
  refine lv_dup hx hb dX0_restore_1 rfl ?_
  refine va_get (D := D) (ci := 0) (v := .int (K 0 0)) (C := RX0) (T := TX0) (N := 2) hx hb ht i_X0 hown hK hP 0 rfl rfl 1 (by decide) (ht _ wd_60) (fun _ h9 => h9) rfl dX0_restore_2 ?_
  refine lv_iconst (v := (1 : Int32)) hx hb dX0_restore_5 (by decide) ?_
  refine lv_isub hx hb dX0_restore_6 ?_
  refine va_put (D := D) (ci := 0) (v := .int (K 0 0 - 1)) (ty := .int) (C := RX0) (T := TX0) (N := 2) hx hb ht i_X0 tyX0 tyX0_ok nmX0 hown hK hP hD hS 0 rfl rfl 1 (by decide) (ht _ wd_60) (fun _ h9 => h9) rfl (by decide +kernel) rfl rfl (Nat.le_of_ble_eq_true rfl) dX0_restore_7 (fun H locs hP hD hS => ?_)
  have hP : va_P D classes (wX0 g ga cI cC cO (va_up K 0 (upd (K 0) 0 (K 0 0 - 1))) P Hs ++ wX1 b cI cC cO O) H := hP
  have hD : va_D A (wX0 g ga cI cC cO (va_up K 0 (upd (K 0) 0 (K 0 0 - 1))) P Hs ++ wX1 b cI cC cO O) := hD
  obtain ⟨K2, e1, h⟩ := sv_ok h
  rw [e1] at hP hD
  obtain ⟨i1, h⟩ := ck_ok h
  have c2 : P (K2 0 0).toNatClampNeg < 4 := by by_cases c2 : P (K2 0 0).toNatClampNeg < 4; exact c2; rw [if_neg c2] at h; cases h
  replace h := fp c2 h
  obtain ⟨L2, e3, h⟩ := b1_ok h
  cases h
  refine lv_aload_n hx hb dX0_restore_10 rfl (lv_at hl 1 rfl) ?_
  refine lv_aload_n hx hb dX0_restore_11 rfl (lv_at hl 0 rfl) ?_
  refine va_get (D := D) (ci := 0) (v := .ref (g 1)) (C := RX0) (T := TX0) (N := 2) hx hb ht i_X0 hown hK hP 0 rfl rfl 0 (by decide) (ht _ wd_59) (fun _ h9 => h9) rfl dX0_restore_12 ?_
  refine lv_aload_n hx hb dX0_restore_15 rfl (lv_at hl 0 rfl) ?_
  refine va_get (D := D) (ci := 0) (v := .int (K2 0 0)) (C := RX0) (T := TX0) (N := 2) hx hb ht i_X0 hown hK hP 0 rfl rfl 1 (by decide) (ht _ wd_60) (fun _ h9 => h9) rfl dX0_restore_16 ?_
  refine va_aldq hx hb hK hP 1 2 rfl rfl i1 dX0_restore_19 ?_
  refine W.eq (g2 := F0 m 20 ls [.ref (ga (P (K2 0 0).toNatClampNeg) 0), .ref (b 0)]) rfl ?_
  have c3 := lt4 c2
  generalize P (K2 0 0).toNatClampNeg = n4 at c2 c3 e3 ⊢
  rcases c3 with rfl | rfl | rfl | rfl
  · refine cl_Vv (ws' := (wX0 g ga cI cC cO K2 P Hs ++ wX1 b cI cC cO L2)) ⟨hx, hb, hml, hown, ht⟩ (c_X1_copyFrom l D cI cC cO b (ga 0) O (Hs 0) _ _ e3) (cwv 1 ht wd_179 wd_2 wd_176 wd_177 wd_178 (by decide +kernel) rfl rfl ⟨Nat.le_of_ble_eq_true rfl, Nat.le_of_ble_eq_true rfl⟩) 1 0 rfl rfl rfl hK hP hD hS hA hN [18, 19, 20, 21, 2, 3, 4, 5] [0, 1, 6, 7, 8, 9, 10, 11, 12, 13, 14, 15, 16, 17] [0, 1, 18, 19, 20, 21, 2, 3, 4, 5, 6, 7, 8, 9, 10, 11, 12, 13, 14, 15, 16, 17] (by decide) rfl rfl (by decide) (by decide) rfl (by decide) rfl hl.1 rfl (Nat.le_of_ble_eq_true rfl) dX0_restore_20 ⟨Nat.le_of_ble_eq_true rfl, Nat.le_of_ble_eq_true rfl⟩ (fun H locs hP hD hS => ?_)
    exact rt_v hx hb hr hlocks hS hP hK hD dX0_restore_23
  · refine cl_Vv (ws' := (wX0 g ga cI cC cO K2 P Hs ++ wX1 b cI cC cO L2)) ⟨hx, hb, hml, hown, ht⟩ (c_X1_copyFrom l D cI cC cO b (ga 1) O (Hs 1) _ _ e3) (cwv 1 ht wd_179 wd_2 wd_176 wd_177 wd_178 (by decide +kernel) rfl rfl ⟨Nat.le_of_ble_eq_true rfl, Nat.le_of_ble_eq_true rfl⟩) 1 0 rfl rfl rfl hK hP hD hS hA hN [18, 19, 20, 21, 6, 7, 8, 9] [0, 1, 2, 3, 4, 5, 10, 11, 12, 13, 14, 15, 16, 17] [0, 1, 2, 3, 4, 5, 18, 19, 20, 21, 6, 7, 8, 9, 10, 11, 12, 13, 14, 15, 16, 17] (by decide) rfl rfl (by decide) (by decide) rfl (by decide) rfl hl.1 rfl (Nat.le_of_ble_eq_true rfl) dX0_restore_20 ⟨Nat.le_of_ble_eq_true rfl, Nat.le_of_ble_eq_true rfl⟩ (fun H locs hP hD hS => ?_)
    exact rt_v hx hb hr hlocks hS hP hK hD dX0_restore_23
  · refine cl_Vv (ws' := (wX0 g ga cI cC cO K2 P Hs ++ wX1 b cI cC cO L2)) ⟨hx, hb, hml, hown, ht⟩ (c_X1_copyFrom l D cI cC cO b (ga 2) O (Hs 2) _ _ e3) (cwv 1 ht wd_179 wd_2 wd_176 wd_177 wd_178 (by decide +kernel) rfl rfl ⟨Nat.le_of_ble_eq_true rfl, Nat.le_of_ble_eq_true rfl⟩) 1 0 rfl rfl rfl hK hP hD hS hA hN [18, 19, 20, 21, 10, 11, 12, 13] [0, 1, 2, 3, 4, 5, 6, 7, 8, 9, 14, 15, 16, 17] [0, 1, 2, 3, 4, 5, 6, 7, 8, 9, 18, 19, 20, 21, 10, 11, 12, 13, 14, 15, 16, 17] (by decide) rfl rfl (by decide) (by decide) rfl (by decide) rfl hl.1 rfl (Nat.le_of_ble_eq_true rfl) dX0_restore_20 ⟨Nat.le_of_ble_eq_true rfl, Nat.le_of_ble_eq_true rfl⟩ (fun H locs hP hD hS => ?_)
    exact rt_v hx hb hr hlocks hS hP hK hD dX0_restore_23
  · refine cl_Vv (ws' := (wX0 g ga cI cC cO K2 P Hs ++ wX1 b cI cC cO L2)) ⟨hx, hb, hml, hown, ht⟩ (c_X1_copyFrom l D cI cC cO b (ga 3) O (Hs 3) _ _ e3) (cwv 1 ht wd_179 wd_2 wd_176 wd_177 wd_178 (by decide +kernel) rfl rfl ⟨Nat.le_of_ble_eq_true rfl, Nat.le_of_ble_eq_true rfl⟩) 1 0 rfl rfl rfl hK hP hD hS hA hN [18, 19, 20, 21, 14, 15, 16, 17] [0, 1, 2, 3, 4, 5, 6, 7, 8, 9, 10, 11, 12, 13] [0, 1, 2, 3, 4, 5, 6, 7, 8, 9, 10, 11, 12, 13, 18, 19, 20, 21, 14, 15, 16, 17] (by decide) rfl rfl (by decide) (by decide) rfl (by decide) rfl hl.1 rfl (Nat.le_of_ble_eq_true rfl) dX0_restore_20 ⟨Nat.le_of_ble_eq_true rfl, Nat.le_of_ble_eq_true rfl⟩ (fun H locs hP hD hS => ?_)
    exact rt_v hx hb hr hlocks hS hP hK hD dX0_restore_23
