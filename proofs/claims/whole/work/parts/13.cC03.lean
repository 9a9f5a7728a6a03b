theorem dX2_readSign_0 : decode cX2_readSign 0 = .ok (.aload_n 0, 1) := by decide +kernel
theorem dX2_readSign_1 : decode cX2_readSign 1 = .ok (.getfield 30, 3) := by decide +kernel
theorem dX2_readSign_4 : decode cX2_readSign 4 = .ok (.aload_n 0, 1) := by decide +kernel
theorem dX2_readSign_5 : decode cX2_readSign 5 = .ok (.getfield 26, 3) := by decide +kernel
theorem dX2_readSign_8 : decode cX2_readSign 8 = .ok (.if_icmp .ge 16, 3) := by decide +kernel
theorem dX2_readSign_11 : decode cX2_readSign 11 = .ok (.aload_n 0, 1) := by decide +kernel
theorem dX2_readSign_12 : decode cX2_readSign 12 = .ok (.getfield 9, 3) := by decide +kernel
theorem dX2_readSign_15 : decode cX2_readSign 15 = .ok (.aload_n 0, 1) := by decide +kernel
theorem dX2_readSign_16 : decode cX2_readSign 16 = .ok (.getfield 30, 3) := by decide +kernel
theorem dX2_readSign_19 : decode cX2_readSign 19 = .ok (.caload, 1) := by decide +kernel
theorem dX2_readSign_20 : decode cX2_readSign 20 = .ok (.iload_n 1, 1) := by decide +kernel
theorem dX2_readSign_21 : decode cX2_readSign 21 = .ok (.if_icmp .eq 5, 3) := by decide +kernel
theorem dX2_readSign_24 : decode cX2_readSign 24 = .ok (.iconst 0, 1) := by decide +kernel
theorem dX2_readSign_25 : decode cX2_readSign 25 = .ok (.ireturn, 1) := by decide +kernel
theorem dX2_readSign_26 : decode cX2_readSign 26 = .ok (.aload_n 0, 1) := by decide +kernel
theorem dX2_readSign_27 : decode cX2_readSign 27 = .ok (.dup, 1) := by decide +kernel
theorem dX2_readSign_28 : decode cX2_readSign 28 = .ok (.getfield 30, 3) := by decide +kernel
theorem dX2_readSign_31 : decode cX2_readSign 31 = .ok (.iconst 1, 1) := by decide +kernel
theorem dX2_readSign_32 : decode cX2_readSign 32 = .ok (.iadd, 1) := by decide +kernel
theorem dX2_readSign_33 : decode cX2_readSign 33 = .ok (.putfield 30, 3) := by decide +kernel
theorem dX2_readSign_36 : decode cX2_readSign 36 = .ok (.iconst 1, 1) := by decide +kernel
theorem dX2_readSign_37 : decode cX2_readSign 37 = .ok (.ireturn, 1) := by decide +kernel
set_option maxHeartbeats 4000000 in
set_option maxRecDepth 100000 in
theorem c_X2_readSign (l : Launch) (D : va_G) (cI cC cO : ClassId) (t : Nat → Nat) (r : Nat → Nat) (T : Mm) (R : Mm) (x1 : Int32) (res : Int32 × Mm) (sz : Nat) (h : F_X2_readSign T R x1 = some res) : Met l yX2_readSign (Cond.code yX2_readSign cX2_readSign 2 (Option.some Jvm.ClassFile.FieldType.boolean) :: lw_g) ({ frames := 0, cells := 0, slots := 0, locals := 0 } : Room) (va_Pc [.ref (t 0), .int x1] (pS D cI cC cO sz (wX2 t r cI cC cO T R))) (QI D cI cC cO (va_A (wX2 t r cI cC cO T R) sz) (wX2 t r cI cC cO res.2 R) res.1) 0 0 (va_A (wX2 t r cI cC cO T R) sz) := by
  refine Met.ofW (cc := cX2_readSign) (maxL := 2) (ret := (Option.some Jvm.ClassFile.FieldType.boolean)) (by decide) rfl ?_
  intro p e s m args below meth c s₁ B hml hv
  obtain ⟨rfl, rfl, hP, hK, hD0, hN⟩ := hv
  have hx := B.exec
  have hb := B.bytes
  have hr := B.returns
  have ht : ∀ w ∈ lw_g, w.before ([.ref (t 0), .int x1] : List Value).toArray s = true := fun w hw => atoms_spec (ws := Cond.code yX2_readSign cX2_readSign 2 (Option.some Jvm.ClassFile.FieldType.boolean) :: lw_g) B.pre w (List.mem_cons_of_mem _ hw)
  have hown : s.vm.findClass RX2 = some m.cls := findClass_of_methodNamed B.named
  have hlocks := B.notSynchronized
  have hD := hD0.self (sz := s.heap.size)
  generalize hAe : va_A (wX2 t r cI cC cO T R) s.heap.size = A at hD ⊢
  have hA : ∀ q : Nat, s.heap.size ≤ q → A q := fun q hq => by rw [← hAe]; exact Or.inr hq
  have hS : va_S A s.heap s.heap [] := va_S.rf
  have hl := lv_entry ([.ref (t 0), .int x1]) (n := 2) (Nat.le_of_ble_eq_true rfl)
  rw [lg_entry_eq]
  generalize (lg_sl ([.ref (t 0), .int x1]) ++ List.replicate (2 - (lg_sl ([.ref (t 0), .int x1])).length) Slot.unset).toArray = ls at hl ⊢
  have hl : lv_has ls 2 [(0, .ref (t 0)), (1, .int x1)] := hl
  unfold F_X2_readSign at h
  refine lv_aload_n hx hb dX2_readSign_0 rfl (lv_at hl 0 rfl) ?_
  refine va_get (D := D) (ci := 2) (v := .int (T 2 1)) (C := RX2) (T := TX2) (N := 9) hx hb ht i_X2 hown hK hP 0 rfl rfl 4 (by decide) (ht _ wd_111) (fun _ h9 => h9) rfl dX2_readSign_1 ?_
  refine lv_aload_n hx hb dX2_readSign_4 rfl (lv_at hl 0 rfl) ?_
  refine va_get (D := D) (ci := 2) (v := .int (T 2 0)) (C := RX2) (T := TX2) (N := 9) hx hb ht i_X2 hown hK hP 0 rfl rfl 3 (by decide) (ht _ wd_109) (fun _ h9 => h9) rfl dX2_readSign_5 ?_
  refine lv_icmp_ge (tgt := 24) hx hb dX2_readSign_8 (by decide) (fun c1 => ?_) (fun c1 => ?_)
  · replace h := fp c1 h
    refine lv_iconst (v := (0 : Int32)) hx hb dX2_readSign_24 (by decide) ?_
    cases h
    exact rt_z (v := (0 : Int32)) hx hb hr rfl hlocks hS hP hK hD dX2_readSign_25
  · replace h := fn c1 h
    refine lv_aload_n hx hb dX2_readSign_11 rfl (lv_at hl 0 rfl) ?_
    refine va_get (D := D) (ci := 2) (v := .ref (t 1)) (C := RX2) (T := TX2) (N := 9) hx hb ht i_X2 hown hK hP 0 rfl rfl 0 (by decide) (ht _ wd_105) (fun _ h9 => h9) rfl dX2_readSign_12 ?_
    refine lv_aload_n hx hb dX2_readSign_15 rfl (lv_at hl 0 rfl) ?_
    refine va_get (D := D) (ci := 2) (v := .int (T 2 1)) (C := RX2) (T := TX2) (N := 9) hx hb ht i_X2 hown hK hP 0 rfl rfl 4 (by decide) (ht _ wd_111) (fun _ h9 => h9) rfl dX2_readSign_16 ?_
    obtain ⟨i2, h⟩ := ck_ok h
    refine va_cald hx hb hK hP 1 1 rfl rfl i2 dX2_readSign_19 ?_
    refine lv_iload_n hx hb dX2_readSign_20 rfl (lv_at hl 1 rfl) ?_
    refine lv_icmp_eq (tgt := 26) hx hb dX2_readSign_21 (by decide) (fun c3 => ?_) (fun c3 => ?_)
    · replace h := fp c3 h
      refine lv_aload_n hx hb dX2_readSign_26 rfl (lv_at hl 0 rfl) ?_
      refine lv_dup hx hb dX2_readSign_27 rfl ?_
      refine va_get (D := D) (ci := 2) (v := .int (T 2 1)) (C := RX2) (T := TX2) (N := 9) hx hb ht i_X2 hown hK hP 0 rfl rfl 4 (by decide) (ht _ wd_111) (fun _ h9 => h9) rfl dX2_readSign_28 ?_
      refine lv_iconst (v := (1 : Int32)) hx hb dX2_readSign_31 (by decide) ?_
      refine lv_iadd hx hb dX2_readSign_32 ?_
      refine va_put (D := D) (ci := 2) (v := .int ((T 2 1) + (1 : Int32))) (ty := .int) (C := RX2) (T := TX2) (N := 9) hx hb ht i_X2 tyX2 tyX2_ok nmX2 hown hK hP hD hS 0 rfl rfl 4 (by decide) (ht _ wd_111) (fun _ h9 => h9) rfl (by decide +kernel) rfl rfl (Nat.le_of_ble_eq_true rfl) dX2_readSign_33 (fun H locs hP hD hS => ?_)
      obtain ⟨T4, e5, h⟩ := sv_ok h
      have hP : va_P D classes (wX2 t r cI cC cO T4 R) H := by rw [← e5]; exact hP
      have hD : va_D A (wX2 t r cI cC cO T4 R) := by rw [← e5]; exact hD
      refine lv_iconst (v := (1 : Int32)) hx hb dX2_readSign_36 (by decide) ?_
      cases h
      exact rt_z (v := (1 : Int32)) hx hb hr rfl hlocks hS hP hK hD dX2_readSign_37
    · replace h := fn c3 h
      refine lv_iconst (v := (0 : Int32)) hx hb dX2_readSign_24 (by decide) ?_
      cases h
      exact rt_z (v := (0 : Int32)) hx hb hr rfl hlocks hS hP hK hD dX2_readSign_25
theorem dX2_readForm_0 : decode cX2_readForm 0 = .ok (.iload_n 1, 1) := by decide +kernel
theorem dX2_readForm_1 : decode cX2_readForm 1 = .ok (.invokestatic 68, 3) := by decide +kernel
theorem dX2_readForm_4 : decode cX2_readForm 4 = .ok (.istore_n 2, 1) := by decide +kernel
theorem dX2_readForm_5 : decode cX2_readForm 5 = .ok (.iload_n 2, 1) := by decide +kernel
theorem dX2_readForm_6 : decode cX2_readForm 6 = .ok (.ifCond .ne 5, 3) := by decide +kernel
theorem dX2_readForm_9 : decode cX2_readForm 9 = .ok (.iconst 0, 1) := by decide +kernel
theorem dX2_readForm_10 : decode cX2_readForm 10 = .ok (.ireturn, 1) := by decide +kernel
theorem dX2_readForm_11 : decode cX2_readForm 11 = .ok (.aload_n 0, 1) := by decide +kernel
theorem dX2_readForm_12 : decode cX2_readForm 12 = .ok (.dup, 1) := by decide +kernel
theorem dX2_readForm_13 : decode cX2_readForm 13 = .ok (.getfield 30, 3) := by decide +kernel
theorem dX2_readForm_16 : decode cX2_readForm 16 = .ok (.iconst 1, 1) := by decide +kernel
theorem dX2_readForm_17 : decode cX2_readForm 17 = .ok (.iadd, 1) := by decide +kernel
theorem dX2_readForm_18 : decode cX2_readForm 18 = .ok (.putfield 30, 3) := by decide +kernel
theorem dX2_readForm_21 : decode cX2_readForm 21 = .ok (.iconst 0, 1) := by decide +kernel
theorem dX2_readForm_22 : decode cX2_readForm 22 = .ok (.istore_n 3, 1) := by decide +kernel
theorem dX2_readForm_23 : decode cX2_readForm 23 = .ok (.iload_n 3, 1) := by decide +kernel
theorem dX2_readForm_24 : decode cX2_readForm 24 = .ok (.iload_n 2, 1) := by decide +kernel
theorem dX2_readForm_25 : decode cX2_readForm 25 = .ok (.if_icmp .ge 40, 3) := by decide +kernel
theorem dX2_readForm_28 : decode cX2_readForm 28 = .ok (.aload_n 0, 1) := by decide +kernel
theorem dX2_readForm_29 : decode cX2_readForm 29 = .ok (.iload_n 3, 1) := by decide +kernel
theorem dX2_readForm_30 : decode cX2_readForm 30 = .ok (.invokevirtual 71, 3) := by decide +kernel
theorem dX2_readForm_33 : decode cX2_readForm 33 = .ok (.ifCond .eq 24, 3) := by decide +kernel
theorem dX2_readForm_36 : decode cX2_readForm 36 = .ok (.aload_n 0, 1) := by decide +kernel
theorem dX2_readForm_37 : decode cX2_readForm 37 = .ok (.iload_n 3, 1) := by decide +kernel
theorem dX2_readForm_38 : decode cX2_readForm 38 = .ok (.iload_n 2, 1) := by decide +kernel
theorem dX2_readForm_39 : decode cX2_readForm 39 = .ok (.iconst 1, 1) := by decide +kernel
theorem dX2_readForm_40 : decode cX2_readForm 40 = .ok (.isub, 1) := by decide +kernel
theorem dX2_readForm_41 : decode cX2_readForm 41 = .ok (.if_icmp .ne 8, 3) := by decide +kernel
theorem dX2_readForm_44 : decode cX2_readForm 44 = .ok (.bipush 59, 2) := by decide +kernel
theorem dX2_readForm_46 : decode cX2_readForm 46 = .ok (.goto 5, 3) := by decide +kernel
theorem dX2_readForm_49 : decode cX2_readForm 49 = .ok (.bipush 44, 2) := by decide +kernel
theorem dX2_readForm_51 : decode cX2_readForm 51 = .ok (.invokevirtual 75, 3) := by decide +kernel
theorem dX2_readForm_54 : decode cX2_readForm 54 = .ok (.ifCond .ne 5, 3) := by decide +kernel
theorem dX2_readForm_57 : decode cX2_readForm 57 = .ok (.iconst 0, 1) := by decide +kernel
theorem dX2_readForm_58 : decode cX2_readForm 58 = .ok (.ireturn, 1) := by decide +kernel
theorem dX2_readForm_59 : decode cX2_readForm 59 = .ok (.iinc 3 1, 3) := by decide +kernel
theorem dX2_readForm_62 : decode cX2_readForm 62 = .ok (.goto (-39), 3) := by decide +kernel
theorem dX2_readForm_65 : decode cX2_readForm 65 = .ok (.iconst 1, 1) := by decide +kernel
theorem dX2_readForm_66 : decode cX2_readForm 66 = .ok (.ireturn, 1) := by decide +kernel
set_option maxHeartbeats 4000000 in
set_option maxRecDepth 100000 in
theorem c_X2_readForm (l : Launch) (D : va_G) (cI cC cO : ClassId) (t : Nat → Nat) (r : Nat → Nat) (T : Mm) (R : Mm) (x1 : Int32) (res : Int32 × Mm) (sz : Nat) (h : F_X2_readForm T R x1 = some res) : Met l yX2_readForm (Cond.code yX2_readForm cX2_readForm 4 (Option.some Jvm.ClassFile.FieldType.boolean) :: lw_g) ({ frames := 3, cells := 0, slots := 0, locals := 63 } : Room) (va_Pc [.ref (t 0), .int x1] (pS D cI cC cO sz (wX2 t r cI cC cO T R))) (QI D cI cC cO (va_A (wX2 t r cI cC cO T R) sz) (wX2 t r cI cC cO res.2 R) res.1) 0 0 (va_A (wX2 t r cI cC cO T R) sz) := by
  refine Met.ofW (cc := cX2_readForm) (maxL := 4) (ret := (Option.some Jvm.ClassFile.FieldType.boolean)) (by decide) rfl ?_
  intro p e s m args below meth c s₁ B hml hv
  obtain ⟨rfl, rfl, hP, hK, hD0, hN⟩ := hv
  have hx := B.exec
  have hb := B.bytes
  have hr := B.returns
  have ht : ∀ w ∈ lw_g, w.before ([.ref (t 0), .int x1] : List Value).toArray s = true := fun w hw => atoms_spec (ws := Cond.code yX2_readForm cX2_readForm 4 (Option.some Jvm.ClassFile.FieldType.boolean) :: lw_g) B.pre w (List.mem_cons_of_mem _ hw)
  have hown : s.vm.findClass RX2 = some m.cls := findClass_of_methodNamed B.named
  have hlocks := B.notSynchronized
  have hD := hD0.self (sz := s.heap.size)
  generalize hAe : va_A (wX2 t r cI cC cO T R) s.heap.size = A at hD ⊢
  have hA : ∀ q : Nat, s.heap.size ≤ q → A q := fun q hq => by rw [← hAe]; exact Or.inr hq
  have hS : va_S A s.heap s.heap [] := va_S.rf
  have hl := lv_entry ([.ref (t 0), .int x1]) (n := 4) (Nat.le_of_ble_eq_true rfl)
  rw [lg_entry_eq]
  generalize (lg_sl ([.ref (t 0), .int x1]) ++ List.replicate (4 - (lg_sl ([.ref (t 0), .int x1])).length) Slot.unset).toArray = ls at hl ⊢
  have hl : lv_has ls 4 [(0, .ref (t 0)), (1, .int x1)] := hl
  have w23 : ∀ (n23 : Nat) (T : Mm) (y2 y3 : Int32) (H : Heap) (locs : List Loc) (ls : Array Slot), F_X2_readForm_23 n23 T R y2 y3 = some res → va_P D classes (wX2 t r cI cC cO T R) H → va_D A (wX2 t r cI cC cO T R) → va_S A s.heap H locs → lv_has ls 4 [(0, .ref (t 0)), (2, .int y2), (3, .int y3)] → W p l e ({ frames := 3, cells := 0, slots := 0, locals := 63 } : Room) s m ([.ref (t 0), .int x1] : List Value).toArray below meth c H locs 0 0 (MQ below (QI D cI cC cO A (wX2 t r cI cC cO res.2 R) res.1) ([.ref (t 0), .int x1] : List Value).toArray s 0 0 A) (F0 m 23 ls []) := by
    intro n23
    induction n23 with
    | zero => intro T y2 y3 H locs ls h hP hD hS hl; exact absurd (show (none : Option (Int32 × Mm)) = some res from h) (by simp)
    | succ n23 ih23 =>
      have w51 : ∀ (T : Mm) (y2 y3 s0 : Int32) (H : Heap) (locs : List Loc) (ls : Array Slot), F_X2_readForm_51 (F_X2_readForm_23 n23) T R y2 y3 s0 = some res → va_P D classes (wX2 t r cI cC cO T R) H → va_D A (wX2 t r cI cC cO T R) → va_S A s.heap H locs → lv_has ls 4 [(0, .ref (t 0)), (2, .int y2), (3, .int y3)] → W p l e ({ frames := 3, cells := 0, slots := 0, locals := 63 } : Room) s m ([.ref (t 0), .int x1] : List Value).toArray below meth c H locs 0 0 (MQ below (QI D cI cC cO A (wX2 t r cI cC cO res.2 R) res.1) ([.ref (t 0), .int x1] : List Value).toArray s 0 0 A) (F0 m 51 ls [.int s0, .ref (t 0)]) := by
        intro T y2 y3 s0 H locs ls h hP hD hS hl
        unfold F_X2_readForm_51 at h
        obtain ⟨u1, T2, e3, h⟩ := b2_ok h
        refine cl_Vi (ws' := (wX2 t r cI cC cO T2 R)) ⟨hx, hb, hml, hown, ht⟩ (c_X2_readSign l D cI cC cO t r T R s0 _ _ e3) (cwv 1 ht wd_495 wd_5 wd_492 wd_494 ws_15 (by decide +kernel) rfl rfl ⟨Nat.le_of_ble_eq_true rfl, Nat.le_of_ble_eq_true rfl⟩) 2 0 rfl rfl rfl hK hP hD hS hA hN [0, 1, 2, 3, 4, 5, 6] [] [0, 1, 2, 3, 4, 5, 6] (by decide) rfl rfl (by decide) (by decide) rfl (by decide) rfl hl.1 rfl (Nat.le_of_ble_eq_true rfl) dX2_readForm_51 ⟨Nat.le_of_ble_eq_true rfl, Nat.le_of_ble_eq_true rfl⟩ (fun H locs hP hD hS => ?_)
        refine lv_if_ne (tgt := 59) hx hb dX2_readForm_54 (by decide) (fun c4 => ?_) (fun c4 => ?_)
        · replace h := fn c4 h
          refine lv_iinc (v := (y3 + 1)) (lv' := [(3, .int (y3 + 1)), (0, .ref (t 0)), (2, .int y2)]) hx hb dX2_readForm_59 hl (k := 2) rfl rfl (by decide) rfl (fun ls hl => ?_)
          refine lv_goto (tgt := 23) hx hb dX2_readForm_62 (by decide) ?_
          exact ih23 T2 y2 (y3 + 1) _ _ ls h hP hD hS (lv_sub hl [1, 2, 0] rfl)
        · replace h := fp c4 h
          refine lv_iconst (v := (0 : Int32)) hx hb dX2_readForm_57 (by decide) ?_
          cases h
          exact rt_z (v := (0 : Int32)) hx hb hr rfl hlocks hS hP hK hD dX2_readForm_58
      intro T y2 y3 H locs ls h hP hD hS hl
      have h : F_X2_readFormB_23 (F_X2_readForm_23 n23) T R y2 y3 = some res := h
      unfold F_X2_readFormB_23 at h
      refine lv_iload_n hx hb dX2_readForm_23 rfl (lv_at hl 2 rfl) ?_
      refine lv_iload_n hx hb dX2_readForm_24 rfl (lv_at hl 1 rfl) ?_
      refine lv_icmp_ge (tgt := 65) hx hb dX2_readForm_25 (by decide) (fun c1 => ?_) (fun c1 => ?_)
      · replace h := fp c1 h
        refine lv_iconst (v := (1 : Int32)) hx hb dX2_readForm_65 (by decide) ?_
        cases h
        exact rt_z (v := (1 : Int32)) hx hb hr rfl hlocks hS hP hK hD dX2_readForm_66
      · replace h := fn c1 h
        refine lv_aload_n hx hb dX2_readForm_28 rfl (lv_at hl 0 rfl) ?_
        refine lv_iload_n hx hb dX2_readForm_29 rfl (lv_at hl 2 rfl) ?_
        obtain ⟨u2, T3, e4, h⟩ := b2_ok h
        refine cl_Vi (ws' := (wX2 t r cI cC cO T3 R)) ⟨hx, hb, hml, hown, ht⟩ (c_X2_readNumber l D cI cC cO t r T R y3 _ _ e4) (cwv 1 ht wd_486 wd_5 wd_483 wd_485 ws_13 (by decide +kernel) rfl rfl ⟨Nat.le_of_ble_eq_true rfl, Nat.le_of_ble_eq_true rfl⟩) 2 0 rfl rfl rfl hK hP hD hS hA hN [0, 1, 2, 3, 4, 5, 6] [] [0, 1, 2, 3, 4, 5, 6] (by decide) rfl rfl (by decide) (by decide) rfl (by decide) rfl hl.1 rfl (Nat.le_of_ble_eq_true rfl) dX2_readForm_30 ⟨Nat.le_of_ble_eq_true rfl, Nat.le_of_ble_eq_true rfl⟩ (fun H locs hP hD hS => ?_)
        refine lv_if_eq (tgt := 57) hx hb dX2_readForm_33 (by decide) (fun c5 => ?_) (fun c5 => ?_)
        · replace h := fp c5 h
          refine lv_iconst (v := (0 : Int32)) hx hb dX2_readForm_57 (by decide) ?_
          cases h
          exact rt_z (v := (0 : Int32)) hx hb hr rfl hlocks hS hP hK hD dX2_readForm_58
        · replace h := fn c5 h
          refine lv_aload_n hx hb dX2_readForm_36 rfl (lv_at hl 0 rfl) ?_
          refine lv_iload_n hx hb dX2_readForm_37 rfl (lv_at hl 2 rfl) ?_
          refine lv_iload_n hx hb dX2_readForm_38 rfl (lv_at hl 1 rfl) ?_
          refine lv_iconst (v := (1 : Int32)) hx hb dX2_readForm_39 (by decide) ?_
          refine lv_isub hx hb dX2_readForm_40 ?_
          refine lv_icmp_ne (tgt := 49) hx hb dX2_readForm_41 (by decide) (fun c6 => ?_) (fun c6 => ?_)
          · replace h := fn c6 h
            refine lv_bipush (v := (44 : Int32)) hx hb dX2_readForm_49 (by decide) ?_
            exact w51 T3 y2 y3 (44 : Int32) _ _ ls h hP hD hS (lv_sub hl [0, 1, 2] rfl)
          · replace h := fp c6 h
            refine lv_bipush (v := (59 : Int32)) hx hb dX2_readForm_44 (by decide) ?_
            refine lv_goto (tgt := 51) hx hb dX2_readForm_46 (by decide) ?_
            exact w51 T3 y2 y3 (59 : Int32) _ _ ls h hP hD hS (lv_sub hl [0, 1, 2] rfl)
  unfold F_X2_readForm at h
  refine lv_iload_n hx hb dX2_readForm_0 rfl (lv_at hl 1 rfl) ?_
  obtain ⟨u1, e2, h⟩ := b1_ok h
  refine cl_Si (ws' := (wX2 t r cI cC cO T R)) ⟨hx, hb, hml, hown, ht⟩ (c_X2_numbersOf l D cI cC cO x1 _ _ e2) (cwst 1 ht wd_482 wd_5 wd_480 wd_481 (by decide +kernel) rfl rfl ⟨Nat.le_of_ble_eq_true rfl, Nat.le_of_ble_eq_true rfl⟩) hK hP hD hS hA hN [] [0, 1, 2, 3, 4, 5, 6] [0, 1, 2, 3, 4, 5, 6] (by decide) rfl rfl (by decide) (by decide) rfl (by decide) rfl hl.1 rfl (Nat.le_of_ble_eq_true rfl) dX2_readForm_1 ⟨Nat.le_of_ble_eq_true rfl, Nat.le_of_ble_eq_true rfl⟩ (fun H locs hP hD hS => ?_)
  refine lv_istore_n (lv' := [(2, .int u1), (0, .ref (t 0)), (1, .int x1)]) hx hb dX2_readForm_4 rfl hl (by decide) rfl (fun ls hl => ?_)
  refine lv_iload_n hx hb dX2_readForm_5 rfl (lv_at hl 0 rfl) ?_
  refine lv_if_ne (tgt := 11) hx hb dX2_readForm_6 (by decide) (fun c3 => ?_) (fun c3 => ?_)
  · replace h := fn c3 h
    refine lv_aload_n hx hb dX2_readForm_11 rfl (lv_at hl 1 rfl) ?_
    refine lv_dup hx hb dX2_readForm_12 rfl ?_
    refine va_get (D := D) (ci := 2) (v := .int (T 2 1)) (C := RX2) (T := TX2) (N := 9) hx hb ht i_X2 hown hK hP 0 rfl rfl 4 (by decide) (ht _ wd_111) (fun _ h9 => h9) rfl dX2_readForm_13 ?_
    refine lv_iconst (v := (1 : Int32)) hx hb dX2_readForm_16 (by decide) ?_
    refine lv_iadd hx hb dX2_readForm_17 ?_
    refine va_put (D := D) (ci := 2) (v := .int ((T 2 1) + (1 : Int32))) (ty := .int) (C := RX2) (T := TX2) (N := 9) hx hb ht i_X2 tyX2 tyX2_ok nmX2 hown hK hP hD hS 0 rfl rfl 4 (by decide) (ht _ wd_111) (fun _ h9 => h9) rfl (by decide +kernel) rfl rfl (Nat.le_of_ble_eq_true rfl) dX2_readForm_18 (fun H locs hP hD hS => ?_)
    obtain ⟨T4, e5, h⟩ := sv_ok h
    have hP : va_P D classes (wX2 t r cI cC cO T4 R) H := by rw [← e5]; exact hP
    have hD : va_D A (wX2 t r cI cC cO T4 R) := by rw [← e5]; exact hD
    refine lv_iconst (v := (0 : Int32)) hx hb dX2_readForm_21 (by decide) ?_
    refine lv_istore_n (lv' := [(3, .int (0 : Int32)), (2, .int u1), (0, .ref (t 0)), (1, .int x1)]) hx hb dX2_readForm_22 rfl hl (by decide) rfl (fun ls hl => ?_)
    exact w23 FU T4 u1 (0 : Int32) _ _ ls h hP hD hS (lv_sub hl [2, 1, 0] rfl)
  · replace h := fp c3 h
    refine lv_iconst (v := (0 : Int32)) hx hb dX2_readForm_9 (by decide) ?_
    cases h
    exact rt_z (v := (0 : Int32)) hx hb hr rfl hlocks hS hP hK hD dX2_readForm_10
theorem dX2_badNumber_0 : decode cX2_badNumber 0 = .ok (.iload_n 1, 1) := by decide +kernel
theorem dX2_badNumber_1 : decode cX2_badNumber 1 = .ok (.lookupswitch 113 #[(104, 35), (111, 87), (112, 55)], 35) := by decide +kernel
theorem dX2_badNumber_36 : decode cX2_badNumber 36 = .ok (.aload_n 0, 1) := by decide +kernel
theorem dX2_badNumber_37 : decode cX2_badNumber 37 = .ok (.getfield 22, 3) := by decide +kernel
theorem dX2_badNumber_40 : decode cX2_badNumber 40 = .ok (.aload_n 0, 1) := by decide +kernel
theorem dX2_badNumber_41 : decode cX2_badNumber 41 = .ok (.getfield 15, 3) := by decide +kernel
theorem dX2_badNumber_44 : decode cX2_badNumber 44 = .ok (.iconst 0, 1) := by decide +kernel
theorem dX2_badNumber_45 : decode cX2_badNumber 45 = .ok (.iaload, 1) := by decide +kernel
theorem dX2_badNumber_46 : decode cX2_badNumber 46 = .ok (.aload_n 0, 1) := by decide +kernel
theorem dX2_badNumber_47 : decode cX2_badNumber 47 = .ok (.getfield 15, 3) := by decide +kernel
theorem dX2_badNumber_50 : decode cX2_badNumber 50 = .ok (.iconst 1, 1) := by decide +kernel
theorem dX2_badNumber_51 : decode cX2_badNumber 51 = .ok (.iaload, 1) := by decide +kernel
theorem dX2_badNumber_52 : decode cX2_badNumber 52 = .ok (.invokevirtual 86, 3) := by decide +kernel
theorem dX2_badNumber_55 : decode cX2_badNumber 55 = .ok (.ireturn, 1) := by decide +kernel
theorem dX2_badNumber_56 : decode cX2_badNumber 56 = .ok (.aload_n 0, 1) := by decide +kernel
theorem dX2_badNumber_57 : decode cX2_badNumber 57 = .ok (.getfield 22, 3) := by decide +kernel
theorem dX2_badNumber_60 : decode cX2_badNumber 60 = .ok (.aload_n 0, 1) := by decide +kernel
theorem dX2_badNumber_61 : decode cX2_badNumber 61 = .ok (.getfield 15, 3) := by decide +kernel
theorem dX2_badNumber_64 : decode cX2_badNumber 64 = .ok (.iconst 0, 1) := by decide +kernel
theorem dX2_badNumber_65 : decode cX2_badNumber 65 = .ok (.iaload, 1) := by decide +kernel
theorem dX2_badNumber_66 : decode cX2_badNumber 66 = .ok (.aload_n 0, 1) := by decide +kernel
theorem dX2_badNumber_67 : decode cX2_badNumber 67 = .ok (.getfield 15, 3) := by decide +kernel
theorem dX2_badNumber_70 : decode cX2_badNumber 70 = .ok (.iconst 1, 1) := by decide +kernel
theorem dX2_badNumber_71 : decode cX2_badNumber 71 = .ok (.iaload, 1) := by decide +kernel
theorem dX2_badNumber_72 : decode cX2_badNumber 72 = .ok (.aload_n 0, 1) := by decide +kernel
theorem dX2_badNumber_73 : decode cX2_badNumber 73 = .ok (.getfield 15, 3) := by decide +kernel
theorem dX2_badNumber_76 : decode cX2_badNumber 76 = .ok (.iconst 2, 1) := by decide +kernel
theorem dX2_badNumber_77 : decode cX2_badNumber 77 = .ok (.iaload, 1) := by decide +kernel
theorem dX2_badNumber_78 : decode cX2_badNumber 78 = .ok (.aload_n 0, 1) := by decide +kernel
theorem dX2_badNumber_79 : decode cX2_badNumber 79 = .ok (.getfield 15, 3) := by decide +kernel
theorem dX2_badNumber_82 : decode cX2_badNumber 82 = .ok (.iconst 3, 1) := by decide +kernel
theorem dX2_badNumber_83 : decode cX2_badNumber 83 = .ok (.iaload, 1) := by decide +kernel
theorem dX2_badNumber_84 : decode cX2_badNumber 84 = .ok (.invokevirtual 90, 3) := by decide +kernel
theorem dX2_badNumber_87 : decode cX2_badNumber 87 = .ok (.ireturn, 1) := by decide +kernel
theorem dX2_badNumber_88 : decode cX2_badNumber 88 = .ok (.aload_n 0, 1) := by decide +kernel
theorem dX2_badNumber_89 : decode cX2_badNumber 89 = .ok (.getfield 22, 3) := by decide +kernel
theorem dX2_badNumber_92 : decode cX2_badNumber 92 = .ok (.aload_n 0, 1) := by decide +kernel
theorem dX2_badNumber_93 : decode cX2_badNumber 93 = .ok (.getfield 15, 3) := by decide +kernel
theorem dX2_badNumber_96 : decode cX2_badNumber 96 = .ok (.iconst 0, 1) := by decide +kernel
theorem dX2_badNumber_97 : decode cX2_badNumber 97 = .ok (.iaload, 1) := by decide +kernel
theorem dX2_badNumber_98 : decode cX2_badNumber 98 = .ok (.aload_n 0, 1) := by decide +kernel
theorem dX2_badNumber_99 : decode cX2_badNumber 99 = .ok (.getfield 15, 3) := by decide +kernel
theorem dX2_badNumber_102 : decode cX2_badNumber 102 = .ok (.iconst 1, 1) := by decide +kernel
theorem dX2_badNumber_103 : decode cX2_badNumber 103 = .ok (.iaload, 1) := by decide +kernel
theorem dX2_badNumber_104 : decode cX2_badNumber 104 = .ok (.aload_n 0, 1) := by decide +kernel
theorem dX2_badNumber_105 : decode cX2_badNumber 105 = .ok (.getfield 15, 3) := by decide +kernel
theorem dX2_badNumber_108 : decode cX2_badNumber 108 = .ok (.iconst 2, 1) := by decide +kernel
theorem dX2_badNumber_109 : decode cX2_badNumber 109 = .ok (.iaload, 1) := by decide +kernel
theorem dX2_badNumber_110 : decode cX2_badNumber 110 = .ok (.invokevirtual 94, 3) := by decide +kernel
theorem dX2_badNumber_113 : decode cX2_badNumber 113 = .ok (.ireturn, 1) := by decide +kernel
theorem dX2_badNumber_114 : decode cX2_badNumber 114 = .ok (.aload_n 0, 1) := by decide +kernel
theorem dX2_badNumber_115 : decode cX2_badNumber 115 = .ok (.getfield 22, 3) := by decide +kernel
theorem dX2_badNumber_118 : decode cX2_badNumber 118 = .ok (.aload_n 0, 1) := by decide +kernel
theorem dX2_badNumber_119 : decode cX2_badNumber 119 = .ok (.getfield 15, 3) := by decide +kernel
theorem dX2_badNumber_122 : decode cX2_badNumber 122 = .ok (.iconst 0, 1) := by decide +kernel
theorem dX2_badNumber_123 : decode cX2_badNumber 123 = .ok (.iaload, 1) := by decide +kernel
theorem dX2_badNumber_124 : decode cX2_badNumber 124 = .ok (.aload_n 0, 1) := by decide +kernel
theorem dX2_badNumber_125 : decode cX2_badNumber 125 = .ok (.getfield 15, 3) := by decide +kernel
theorem dX2_badNumber_128 : decode cX2_badNumber 128 = .ok (.iconst 1, 1) := by decide +kernel
theorem dX2_badNumber_129 : decode cX2_badNumber 129 = .ok (.iaload, 1) := by decide +kernel
theorem dX2_badNumber_130 : decode cX2_badNumber 130 = .ok (.invokevirtual 98, 3) := by decide +kernel
theorem dX2_badNumber_133 : decode cX2_badNumber 133 = .ok (.ireturn, 1) := by decide +kernel
set_option maxHeartbeats 4000000 in
set_option maxRecDepth 100000 in
theorem c_X2_badNumber (l : Launch) (D : va_G) (cI cC cO : ClassId) (t : Nat → Nat) (r : Nat → Nat) (T : Mm) (R : Mm) (x1 : Int32) (res : Int32) (sz : Nat) (h : F_X2_badNumber T R x1 = some res) : Met l yX2_badNumber (Cond.code yX2_badNumber cX2_badNumber 2 (Option.some Jvm.ClassFile.FieldType.int) :: lw_g) ({ frames := 3, cells := 0, slots := 0, locals := 67 } : Room) (va_Pc [.ref (t 0), .int x1] (pS D cI cC cO sz (wX2 t r cI cC cO T R))) (QI D cI cC cO (va_A (wX2 t r cI cC cO T R) sz) (wX2 t r cI cC cO T R) res) 0 0 (va_A (wX2 t r cI cC cO T R) sz) := by
  refine Met.ofW (cc := cX2_badNumber) (maxL := 2) (ret := (Option.some Jvm.ClassFile.FieldType.int)) (by decide) rfl ?_
  intro p e s m args below meth c s₁ B hml hv
  obtain ⟨rfl, rfl, hP, hK, hD0, hN⟩ := hv
  have hx := B.exec
  have hb := B.bytes
  have hr := B.returns
  have ht : ∀ w ∈ lw_g, w.before ([.ref (t 0), .int x1] : List Value).toArray s = true := fun w hw => atoms_spec (ws := Cond.code yX2_badNumber cX2_badNumber 2 (Option.some Jvm.ClassFile.FieldType.int) :: lw_g) B.pre w (List.mem_cons_of_mem _ hw)
  have hown : s.vm.findClass RX2 = some m.cls := findClass_of_methodNamed B.named
  have hlocks := B.notSynchronized
  have hD := hD0.self (sz := s.heap.size)
  generalize hAe : va_A (wX2 t r cI cC cO T R) s.heap.size = A at hD ⊢
  have hA : ∀ q : Nat, s.heap.size ≤ q → A q := fun q hq => by rw [← hAe]; exact Or.inr hq
  have hS : va_S A s.heap s.heap [] := va_S.rf
  have hl := lv_entry ([.ref (t 0), .int x1]) (n := 2) (Nat.le_of_ble_eq_true rfl)
  rw [lg_entry_eq]
  generalize (lg_sl ([.ref (t 0), .int x1]) ++ List.replicate (2 - (lg_sl ([.ref (t 0), .int x1])).length) Slot.unset).toArray = ls at hl ⊢
  have hl : lv_has ls 2 [(0, .ref (t 0)), (1, .int x1)] := hl
  unfold F_X2_badNumber at h
  refine lv_iload_n hx hb dX2_badNumber_0 rfl (lv_at hl 1 rfl) ?_
  by_cases c1 : x1 = (104 : Int32)
  · replace h := fp c1 h
    refine lv_lookup (off := 35) (tgt := 36) hx hb dX2_badNumber_1 (by decide) (by rw [c1]; decide) (by decide) ?_
    refine lv_aload_n hx hb dX2_badNumber_36 rfl (lv_at hl 0 rfl) ?_
    refine va_get (D := D) (ci := 2) (v := .ref (r 0)) (C := RX2) (T := TX2) (N := 9) hx hb ht i_X2 hown hK hP 0 rfl rfl 2 (by decide) (ht _ wd_107) (fun _ h9 => h9) rfl dX2_badNumber_37 ?_
    refine lv_aload_n hx hb dX2_badNumber_40 rfl (lv_at hl 0 rfl) ?_
    refine va_get (D := D) (ci := 2) (v := .ref (t 2)) (C := RX2) (T := TX2) (N := 9) hx hb ht i_X2 hown hK hP 0 rfl rfl 1 (by decide) (ht _ wd_106) (fun _ h9 => h9) rfl dX2_badNumber_41 ?_
    refine lv_iconst (v := (0 : Int32)) hx hb dX2_badNumber_44 (by decide) ?_
    obtain ⟨i2, h⟩ := ck_ok h
    refine va_iald hx hb hK hP 2 0 rfl rfl i2 dX2_badNumber_45 ?_
    refine lv_aload_n hx hb dX2_badNumber_46 rfl (lv_at hl 0 rfl) ?_
    refine va_get (D := D) (ci := 2) (v := .ref (t 2)) (C := RX2) (T := TX2) (N := 9) hx hb ht i_X2 hown hK hP 0 rfl rfl 1 (by decide) (ht _ wd_106) (fun _ h9 => h9) rfl dX2_badNumber_47 ?_
    refine lv_iconst (v := (1 : Int32)) hx hb dX2_badNumber_50 (by decide) ?_
    obtain ⟨i3, h⟩ := ck_ok h
    refine va_iald hx hb hK hP 2 0 rfl rfl i3 dX2_badNumber_51 ?_
    obtain ⟨u4, e5, h⟩ := b1_ok h
    refine cl_Vi (ws' := (wX2 t r cI cC cO T R)) ⟨hx, hb, hml, hown, ht⟩ (c_X1_badOfPlace l D cI cC cO r R (T 1 (0 : Int32).toNatClampNeg) (T 1 (1 : Int32).toNatClampNeg) _ _ e5) (cwv 2 ht wd_158 wd_2 wd_500 wd_156 wd_157 (by decide +kernel) rfl rfl ⟨Nat.le_of_ble_eq_true rfl, Nat.le_of_ble_eq_true rfl⟩) 1 0 rfl rfl rfl hK hP hD hS hA hN [3, 4, 5, 6] [0, 1, 2] [0, 1, 2, 3, 4, 5, 6] (by decide) rfl rfl (by decide) (by decide) rfl (by decide) rfl hl.1 rfl (Nat.le_of_ble_eq_true rfl) dX2_badNumber_52 ⟨Nat.le_of_ble_eq_true rfl, Nat.le_of_ble_eq_true rfl⟩ (fun H locs hP hD hS => ?_)
    cases h
    exact rt_i hx hb hr hlocks hS hP hK hD dX2_badNumber_55
  · replace h := fn c1 h
    by_cases c6 : x1 = (111 : Int32)
    · replace h := fp c6 h
      refine lv_lookup (off := 87) (tgt := 88) hx hb dX2_badNumber_1 (by decide) (by rw [c6]; decide) (by decide) ?_
      refine lv_aload_n hx hb dX2_badNumber_88 rfl (lv_at hl 0 rfl) ?_
      refine va_get (D := D) (ci := 2) (v := .ref (r 0)) (C := RX2) (T := TX2) (N := 9) hx hb ht i_X2 hown hK hP 0 rfl rfl 2 (by decide) (ht _ wd_107) (fun _ h9 => h9) rfl dX2_badNumber_89 ?_
      refine lv_aload_n hx hb dX2_badNumber_92 rfl (lv_at hl 0 rfl) ?_
      refine va_get (D := D) (ci := 2) (v := .ref (t 2)) (C := RX2) (T := TX2) (N := 9) hx hb ht i_X2 hown hK hP 0 rfl rfl 1 (by decide) (ht _ wd_106) (fun _ h9 => h9) rfl dX2_badNumber_93 ?_
      refine lv_iconst (v := (0 : Int32)) hx hb dX2_badNumber_96 (by decide) ?_
      obtain ⟨i7, h⟩ := ck_ok h
      refine va_iald hx hb hK hP 2 0 rfl rfl i7 dX2_badNumber_97 ?_
      refine lv_aload_n hx hb dX2_badNumber_98 rfl (lv_at hl 0 rfl) ?_
      refine va_get (D := D) (ci := 2) (v := .ref (t 2)) (C := RX2) (T := TX2) (N := 9) hx hb ht i_X2 hown hK hP 0 rfl rfl 1 (by decide) (ht _ wd_106) (fun _ h9 => h9) rfl dX2_badNumber_99 ?_
      refine lv_iconst (v := (1 : Int32)) hx hb dX2_badNumber_102 (by decide) ?_
      obtain ⟨i8, h⟩ := ck_ok h
      refine va_iald hx hb hK hP 2 0 rfl rfl i8 dX2_badNumber_103 ?_
      refine lv_aload_n hx hb dX2_badNumber_104 rfl (lv_at hl 0 rfl) ?_
      refine va_get (D := D) (ci := 2) (v := .ref (t 2)) (C := RX2) (T := TX2) (N := 9) hx hb ht i_X2 hown hK hP 0 rfl rfl 1 (by decide) (ht _ wd_106) (fun _ h9 => h9) rfl dX2_badNumber_105 ?_
      refine lv_iconst (v := (2 : Int32)) hx hb dX2_badNumber_108 (by decide) ?_
      obtain ⟨i9, h⟩ := ck_ok h
      refine va_iald hx hb hK hP 2 0 rfl rfl i9 dX2_badNumber_109 ?_
      obtain ⟨u10, e11, h⟩ := b1_ok h
      refine cl_Vi (ws' := (wX2 t r cI cC cO T R)) ⟨hx, hb, hml, hown, ht⟩ (c_X1_badOfOpening l D cI cC cO r R (T 1 (0 : Int32).toNatClampNeg) (T 1 (1 : Int32).toNatClampNeg) (T 1 (2 : Int32).toNatClampNeg) _ _ e11) (cwv 3 ht wd_234 wd_2 wd_502 wd_232 wd_233 (by decide +kernel) rfl rfl ⟨Nat.le_of_ble_eq_true rfl, Nat.le_of_ble_eq_true rfl⟩) 1 0 rfl rfl rfl hK hP hD hS hA hN [3, 4, 5, 6] [0, 1, 2] [0, 1, 2, 3, 4, 5, 6] (by decide) rfl rfl (by decide) (by decide) rfl (by decide) rfl hl.1 rfl (Nat.le_of_ble_eq_true rfl) dX2_badNumber_110 ⟨Nat.le_of_ble_eq_true rfl, Nat.le_of_ble_eq_true rfl⟩ (fun H locs hP hD hS => ?_)
      cases h
      exact rt_i hx hb hr hlocks hS hP hK hD dX2_badNumber_113
    · replace h := fn c6 h
      by_cases c12 : x1 = (112 : Int32)
      · replace h := fp c12 h
        refine lv_lookup (off := 55) (tgt := 56) hx hb dX2_badNumber_1 (by decide) (by rw [c12]; decide) (by decide) ?_
        refine lv_aload_n hx hb dX2_badNumber_56 rfl (lv_at hl 0 rfl) ?_
        refine va_get (D := D) (ci := 2) (v := .ref (r 0)) (C := RX2) (T := TX2) (N := 9) hx hb ht i_X2 hown hK hP 0 rfl rfl 2 (by decide) (ht _ wd_107) (fun _ h9 => h9) rfl dX2_badNumber_57 ?_
        refine lv_aload_n hx hb dX2_badNumber_60 rfl (lv_at hl 0 rfl) ?_
        refine va_get (D := D) (ci := 2) (v := .ref (t 2)) (C := RX2) (T := TX2) (N := 9) hx hb ht i_X2 hown hK hP 0 rfl rfl 1 (by decide) (ht _ wd_106) (fun _ h9 => h9) rfl dX2_badNumber_61 ?_
        refine lv_iconst (v := (0 : Int32)) hx hb dX2_badNumber_64 (by decide) ?_
        obtain ⟨i13, h⟩ := ck_ok h
        refine va_iald hx hb hK hP 2 0 rfl rfl i13 dX2_badNumber_65 ?_
        refine lv_aload_n hx hb dX2_badNumber_66 rfl (lv_at hl 0 rfl) ?_
        refine va_get (D := D) (ci := 2) (v := .ref (t 2)) (C := RX2) (T := TX2) (N := 9) hx hb ht i_X2 hown hK hP 0 rfl rfl 1 (by decide) (ht _ wd_106) (fun _ h9 => h9) rfl dX2_badNumber_67 ?_
        refine lv_iconst (v := (1 : Int32)) hx hb dX2_badNumber_70 (by decide) ?_
        obtain ⟨i14, h⟩ := ck_ok h
        refine va_iald hx hb hK hP 2 0 rfl rfl i14 dX2_badNumber_71 ?_
        refine lv_aload_n hx hb dX2_badNumber_72 rfl (lv_at hl 0 rfl) ?_
        refine va_get (D := D) (ci := 2) (v := .ref (t 2)) (C := RX2) (T := TX2) (N := 9) hx hb ht i_X2 hown hK hP 0 rfl rfl 1 (by decide) (ht _ wd_106) (fun _ h9 => h9) rfl dX2_badNumber_73 ?_
        refine lv_iconst (v := (2 : Int32)) hx hb dX2_badNumber_76 (by decide) ?_
        obtain ⟨i15, h⟩ := ck_ok h
        refine va_iald hx hb hK hP 2 0 rfl rfl i15 dX2_badNumber_77 ?_
        refine lv_aload_n hx hb dX2_badNumber_78 rfl (lv_at hl 0 rfl) ?_
        refine va_get (D := D) (ci := 2) (v := .ref (t 2)) (C := RX2) (T := TX2) (N := 9) hx hb ht i_X2 hown hK hP 0 rfl rfl 1 (by decide) (ht _ wd_106) (fun _ h9 => h9) rfl dX2_badNumber_79 ?_
        refine lv_iconst (v := (3 : Int32)) hx hb dX2_badNumber_82 (by decide) ?_
        obtain ⟨i16, h⟩ := ck_ok h
        refine va_iald hx hb hK hP 2 0 rfl rfl i16 dX2_badNumber_83 ?_
        obtain ⟨u17, e18, h⟩ := b1_ok h
        refine cl_Vi (ws' := (wX2 t r cI cC cO T R)) ⟨hx, hb, hml, hown, ht⟩ (c_X1_badOfPipe l D cI cC cO r R (T 1 (0 : Int32).toNatClampNeg) (T 1 (1 : Int32).toNatClampNeg) (T 1 (2 : Int32).toNatClampNeg) (T 1 (3 : Int32).toNatClampNeg) _ _ e18) (cwv 4 ht wd_194 wd_2 wd_501 wd_192 wd_193 (by decide +kernel) rfl rfl ⟨Nat.le_of_ble_eq_true rfl, Nat.le_of_ble_eq_true rfl⟩) 1 0 rfl rfl rfl hK hP hD hS hA hN [3, 4, 5, 6] [0, 1, 2] [0, 1, 2, 3, 4, 5, 6] (by decide) rfl rfl (by decide) (by decide) rfl (by decide) rfl hl.1 rfl (Nat.le_of_ble_eq_true rfl) dX2_badNumber_84 ⟨Nat.le_of_ble_eq_true rfl, Nat.le_of_ble_eq_true rfl⟩ (fun H locs hP hD hS => ?_)
        cases h
        exact rt_i hx hb hr hlocks hS hP hK hD dX2_badNumber_87
      · replace h := fn c12 h
        refine lv_lookup (off := 113) (tgt := 114) hx hb dX2_badNumber_1 (by decide) (by simp only [lookupswitch.offset_cons, lookupswitch.offset_nil, Array.toList]; rw [if_neg (lk_ne (k := 104) (by decide) c1), if_neg (lk_ne (k := 111) (by decide) c6), if_neg (lk_ne (k := 112) (by decide) c12)] <;> rfl) (by decide) ?_
        refine lv_aload_n hx hb dX2_badNumber_114 rfl (lv_at hl 0 rfl) ?_
        refine va_get (D := D) (ci := 2) (v := .ref (r 0)) (C := RX2) (T := TX2) (N := 9) hx hb ht i_X2 hown hK hP 0 rfl rfl 2 (by decide) (ht _ wd_107) (fun _ h9 => h9) rfl dX2_badNumber_115 ?_
        refine lv_aload_n hx hb dX2_badNumber_118 rfl (lv_at hl 0 rfl) ?_
        refine va_get (D := D) (ci := 2) (v := .ref (t 2)) (C := RX2) (T := TX2) (N := 9) hx hb ht i_X2 hown hK hP 0 rfl rfl 1 (by decide) (ht _ wd_106) (fun _ h9 => h9) rfl dX2_badNumber_119 ?_
        refine lv_iconst (v := (0 : Int32)) hx hb dX2_badNumber_122 (by decide) ?_
        obtain ⟨i19, h⟩ := ck_ok h
        refine va_iald hx hb hK hP 2 0 rfl rfl i19 dX2_badNumber_123 ?_
        refine lv_aload_n hx hb dX2_badNumber_124 rfl (lv_at hl 0 rfl) ?_
        refine va_get (D := D) (ci := 2) (v := .ref (t 2)) (C := RX2) (T := TX2) (N := 9) hx hb ht i_X2 hown hK hP 0 rfl rfl 1 (by decide) (ht _ wd_106) (fun _ h9 => h9) rfl dX2_badNumber_125 ?_
        refine lv_iconst (v := (1 : Int32)) hx hb dX2_badNumber_128 (by decide) ?_
        obtain ⟨i20, h⟩ := ck_ok h
        refine va_iald hx hb hK hP 2 0 rfl rfl i20 dX2_badNumber_129 ?_
        obtain ⟨u21, e22, h⟩ := b1_ok h
        refine cl_Vi (ws' := (wX2 t r cI cC cO T R)) ⟨hx, hb, hml, hown, ht⟩ (c_X1_badOfUnits l D cI cC cO r R (T 1 (0 : Int32).toNatClampNeg) (T 1 (1 : Int32).toNatClampNeg) _ _ e22) (cwv 2 ht wd_260 wd_2 wd_503 wd_258 wd_259 (by decide +kernel) rfl rfl ⟨Nat.le_of_ble_eq_true rfl, Nat.le_of_ble_eq_true rfl⟩) 1 0 rfl rfl rfl hK hP hD hS hA hN [3, 4, 5, 6] [0, 1, 2] [0, 1, 2, 3, 4, 5, 6] (by decide) rfl rfl (by decide) (by decide) rfl (by decide) rfl hl.1 rfl (Nat.le_of_ble_eq_true rfl) dX2_badNumber_130 ⟨Nat.le_of_ble_eq_true rfl, Nat.le_of_ble_eq_true rfl⟩ (fun H locs hP hD hS => ?_)
        cases h
        exact rt_i hx hb hr hlocks hS hP hK hD dX2_badNumber_133
theorem dX2_isBeyondLimit_0 : decode cX2_isBeyondLimit 0 = .ok (.iload_n 1, 1) := by decide +kernel
theorem dX2_isBeyondLimit_1 : decode cX2_isBeyondLimit 1 = .ok (.bipush 104, 2) := by decide +kernel
theorem dX2_isBeyondLimit_3 : decode cX2_isBeyondLimit 3 = .ok (.if_icmp .ne 13, 3) := by decide +kernel
theorem dX2_isBeyondLimit_6 : decode cX2_isBeyondLimit 6 = .ok (.aload_n 0, 1) := by decide +kernel
theorem dX2_isBeyondLimit_7 : decode cX2_isBeyondLimit 7 = .ok (.getfield 22, 3) := by decide +kernel
theorem dX2_isBeyondLimit_10 : decode cX2_isBeyondLimit 10 = .ok (.invokevirtual 101, 3) := by decide +kernel
theorem dX2_isBeyondLimit_13 : decode cX2_isBeyondLimit 13 = .ok (.ifCond .ne 19, 3) := by decide +kernel
theorem dX2_isBeyondLimit_16 : decode cX2_isBeyondLimit 16 = .ok (.iload_n 1, 1) := by decide +kernel
theorem dX2_isBeyondLimit_17 : decode cX2_isBeyondLimit 17 = .ok (.bipush 112, 2) := by decide +kernel
theorem dX2_isBeyondLimit_19 : decode cX2_isBeyondLimit 19 = .ok (.if_icmp .ne 17, 3) := by decide +kernel
theorem dX2_isBeyondLimit_22 : decode cX2_isBeyondLimit 22 = .ok (.aload_n 0, 1) := by decide +kernel
theorem dX2_isBeyondLimit_23 : decode cX2_isBeyondLimit 23 = .ok (.getfield 22, 3) := by decide +kernel
theorem dX2_isBeyondLimit_26 : decode cX2_isBeyondLimit 26 = .ok (.invokevirtual 104, 3) := by decide +kernel
theorem dX2_isBeyondLimit_29 : decode cX2_isBeyondLimit 29 = .ok (.ifCond .eq 7, 3) := by decide +kernel
theorem dX2_isBeyondLimit_32 : decode cX2_isBeyondLimit 32 = .ok (.iconst 1, 1) := by decide +kernel
theorem dX2_isBeyondLimit_33 : decode cX2_isBeyondLimit 33 = .ok (.goto 4, 3) := by decide +kernel
theorem dX2_isBeyondLimit_36 : decode cX2_isBeyondLimit 36 = .ok (.iconst 0, 1) := by decide +kernel
theorem dX2_isBeyondLimit_37 : decode cX2_isBeyondLimit 37 = .ok (.ireturn, 1) := by decide +kernel
set_option maxHeartbeats 4000000 in
set_option maxRecDepth 100000 in
theorem c_X2_isBeyondLimit (l : Launch) (D : va_G) (cI cC cO : ClassId) (t : Nat → Nat) (r : Nat → Nat) (T : Mm) (R : Mm) (x1 : Int32) (res : Int32) (sz : Nat) (h : F_X2_isBeyondLimit T R x1 = some res) : Met l yX2_isBeyondLimit (Cond.code yX2_isBeyondLimit cX2_isBeyondLimit 2 (Option.some Jvm.ClassFile.FieldType.boolean) :: lw_g) ({ frames := 1, cells := 0, slots := 0, locals := 20 } : Room) (va_Pc [.ref (t 0), .int x1] (pS D cI cC cO sz (wX2 t r cI cC cO T R))) (QI D cI cC cO (va_A (wX2 t r cI cC cO T R) sz) (wX2 t r cI cC cO T R) res) 0 0 (va_A (wX2 t r cI cC cO T R) sz) := by
  refine Met.ofW (cc := cX2_isBeyondLimit) (maxL := 2) (ret := (Option.some Jvm.ClassFile.FieldType.boolean)) (by decide) rfl ?_
  intro p e s m args below meth c s₁ B hml hv
  obtain ⟨rfl, rfl, hP, hK, hD0, hN⟩ := hv
  have hx := B.exec
  have hb := B.bytes
  have hr := B.returns
  have ht : ∀ w ∈ lw_g, w.before ([.ref (t 0), .int x1] : List Value).toArray s = true := fun w hw => atoms_spec (ws := Cond.code yX2_isBeyondLimit cX2_isBeyondLimit 2 (Option.some Jvm.ClassFile.FieldType.boolean) :: lw_g) B.pre w (List.mem_cons_of_mem _ hw)
  have hown : s.vm.findClass RX2 = some m.cls := findClass_of_methodNamed B.named
  have hlocks := B.notSynchronized
  have hD := hD0.self (sz := s.heap.size)
  generalize hAe : va_A (wX2 t r cI cC cO T R) s.heap.size = A at hD ⊢
  have hA : ∀ q : Nat, s.heap.size ≤ q → A q := fun q hq => by rw [← hAe]; exact Or.inr hq
  have hS : va_S A s.heap s.heap [] := va_S.rf
  have hl := lv_entry ([.ref (t 0), .int x1]) (n := 2) (Nat.le_of_ble_eq_true rfl)
  rw [lg_entry_eq]
  generalize (lg_sl ([.ref (t 0), .int x1]) ++ List.replicate (2 - (lg_sl ([.ref (t 0), .int x1])).length) Slot.unset).toArray = ls at hl ⊢
  have hl : lv_has ls 2 [(0, .ref (t 0)), (1, .int x1)] := hl
  have w16 : ∀ (y1 : Int32) (H : Heap) (locs : List Loc) (ls : Array Slot), F_X2_isBeyondLimit_16 T R y1 = some res → va_P D classes (wX2 t r cI cC cO T R) H → va_D A (wX2 t r cI cC cO T R) → va_S A s.heap H locs → lv_has ls 2 [(0, .ref (t 0)), (1, .int y1)] → W p l e ({ frames := 1, cells := 0, slots := 0, locals := 20 } : Room) s m ([.ref (t 0), .int x1] : List Value).toArray below meth c H locs 0 0 (MQ below (QI D cI cC cO A (wX2 t r cI cC cO T R) res) ([.ref (t 0), .int x1] : List Value).toArray s 0 0 A) (F0 m 16 ls []) := by
    intro y1 H locs ls h hP hD hS hl
    unfold F_X2_isBeyondLimit_16 at h
    refine lv_iload_n hx hb dX2_isBeyondLimit_16 rfl (lv_at hl 1 rfl) ?_
    refine lv_bipush (v := (112 : Int32)) hx hb dX2_isBeyondLimit_17 (by decide) ?_
    refine lv_icmp_ne (tgt := 36) hx hb dX2_isBeyondLimit_19 (by decide) (fun c1 => ?_) (fun c1 => ?_)
    · replace h := fn c1 h
      refine lv_iconst (v := (0 : Int32)) hx hb dX2_isBeyondLimit_36 (by decide) ?_
      cases h
      exact rt_z (v := (0 : Int32)) hx hb hr rfl hlocks hS hP hK hD dX2_isBeyondLimit_37
    · replace h := fp c1 h
      refine lv_aload_n hx hb dX2_isBeyondLimit_22 rfl (lv_at hl 0 rfl) ?_
      refine va_get (D := D) (ci := 2) (v := .ref (r 0)) (C := RX2) (T := TX2) (N := 9) hx hb ht i_X2 hown hK hP 0 rfl rfl 2 (by decide) (ht _ wd_107) (fun _ h9 => h9) rfl dX2_isBeyondLimit_23 ?_
      obtain ⟨u2, e3, h⟩ := b1_ok h
      refine cl_Vi (ws' := (wX2 t r cI cC cO T R)) ⟨hx, hb, hml, hown, ht⟩ (c_X1_pipesAreFull l D cI cC cO r R _ _ e3) (cwv 0 ht wd_202 wd_2 wd_509 wd_200 wd_201 (by decide +kernel) rfl rfl ⟨Nat.le_of_ble_eq_true rfl, Nat.le_of_ble_eq_true rfl⟩) 1 0 rfl rfl rfl hK hP hD hS hA hN [3, 4, 5, 6] [0, 1, 2] [0, 1, 2, 3, 4, 5, 6] (by decide) rfl rfl (by decide) (by decide) rfl (by decide) rfl hl.1 rfl (Nat.le_of_ble_eq_true rfl) dX2_isBeyondLimit_26 ⟨Nat.le_of_ble_eq_true rfl, Nat.le_of_ble_eq_true rfl⟩ (fun H locs hP hD hS => ?_)
      refine lv_if_eq (tgt := 36) hx hb dX2_isBeyondLimit_29 (by decide) (fun c4 => ?_) (fun c4 => ?_)
      · replace h := fp c4 h
        refine lv_iconst (v := (0 : Int32)) hx hb dX2_isBeyondLimit_36 (by decide) ?_
        cases h
        exact rt_z (v := (0 : Int32)) hx hb hr rfl hlocks hS hP hK hD dX2_isBeyondLimit_37
      · replace h := fn c4 h
        refine lv_iconst (v := (1 : Int32)) hx hb dX2_isBeyondLimit_32 (by decide) ?_
        refine lv_goto (tgt := 37) hx hb dX2_isBeyondLimit_33 (by decide) ?_
        cases h
        exact rt_z (v := (1 : Int32)) hx hb hr rfl hlocks hS hP hK hD dX2_isBeyondLimit_37
  unfold F_X2_isBeyondLimit at h
  refine lv_iload_n hx hb dX2_isBeyondLimit_0 rfl (lv_at hl 1 rfl) ?_
  refine lv_bipush (v := (104 : Int32)) hx hb dX2_isBeyondLimit_1 (by decide) ?_
  refine lv_icmp_ne (tgt := 16) hx hb dX2_isBeyondLimit_3 (by decide) (fun c1 => ?_) (fun c1 => ?_)
  · replace h := fn c1 h
    exact w16 x1 _ _ ls h hP hD hS (lv_sub hl [0, 1] rfl)
  · replace h := fp c1 h
    refine lv_aload_n hx hb dX2_isBeyondLimit_6 rfl (lv_at hl 0 rfl) ?_
    refine va_get (D := D) (ci := 2) (v := .ref (r 0)) (C := RX2) (T := TX2) (N := 9) hx hb ht i_X2 hown hK hP 0 rfl rfl 2 (by decide) (ht _ wd_107) (fun _ h9 => h9) rfl dX2_isBeyondLimit_7 ?_
    obtain ⟨u2, e3, h⟩ := b1_ok h
    refine cl_Vi (ws' := (wX2 t r cI cC cO T R)) ⟨hx, hb, hml, hown, ht⟩ (c_X1_placesAreFull l D cI cC cO r R _ _ e3) (cwv 0 ht wd_166 wd_2 wd_508 wd_164 wd_165 (by decide +kernel) rfl rfl ⟨Nat.le_of_ble_eq_true rfl, Nat.le_of_ble_eq_true rfl⟩) 1 0 rfl rfl rfl hK hP hD hS hA hN [3, 4, 5, 6] [0, 1, 2] [0, 1, 2, 3, 4, 5, 6] (by decide) rfl rfl (by decide) (by decide) rfl (by decide) rfl hl.1 rfl (Nat.le_of_ble_eq_true rfl) dX2_isBeyondLimit_10 ⟨Nat.le_of_ble_eq_true rfl, Nat.le_of_ble_eq_true rfl⟩ (fun H locs hP hD hS => ?_)
    refine lv_if_ne (tgt := 32) hx hb dX2_isBeyondLimit_13 (by decide) (fun c4 => ?_) (fun c4 => ?_)
    · replace h := fn c4 h
      refine lv_iconst (v := (1 : Int32)) hx hb dX2_isBeyondLimit_32 (by decide) ?_
      refine lv_goto (tgt := 37) hx hb dX2_isBeyondLimit_33 (by decide) ?_
      cases h
      exact rt_z (v := (1 : Int32)) hx hb hr rfl hlocks hS hP hK hD dX2_isBeyondLimit_37
    · replace h := fp c4 h
      exact w16 x1 _ _ ls h hP hD hS (lv_sub hl [0, 1] rfl)
theorem dX2_settle_0 : decode cX2_settle 0 = .ok (.iload_n 1, 1) := by decide +kernel
theorem dX2_settle_1 : decode cX2_settle 1 = .ok (.lookupswitch 121 #[(104, 35), (111, 93), (112, 58)], 35) := by decide +kernel
theorem dX2_settle_36 : decode cX2_settle 36 = .ok (.aload_n 0, 1) := by decide +kernel
theorem dX2_settle_37 : decode cX2_settle 37 = .ok (.getfield 22, 3) := by decide +kernel
theorem dX2_settle_40 : decode cX2_settle 40 = .ok (.aload_n 0, 1) := by decide +kernel
theorem dX2_settle_41 : decode cX2_settle 41 = .ok (.getfield 15, 3) := by decide +kernel
theorem dX2_settle_44 : decode cX2_settle 44 = .ok (.iconst 0, 1) := by decide +kernel
theorem dX2_settle_45 : decode cX2_settle 45 = .ok (.iaload, 1) := by decide +kernel
theorem dX2_settle_46 : decode cX2_settle 46 = .ok (.aload_n 0, 1) := by decide +kernel
theorem dX2_settle_47 : decode cX2_settle 47 = .ok (.getfield 15, 3) := by decide +kernel
theorem dX2_settle_50 : decode cX2_settle 50 = .ok (.iconst 1, 1) := by decide +kernel
theorem dX2_settle_51 : decode cX2_settle 51 = .ok (.iaload, 1) := by decide +kernel
theorem dX2_settle_52 : decode cX2_settle 52 = .ok (.invokevirtual 107, 3) := by decide +kernel
theorem dX2_settle_55 : decode cX2_settle 55 = .ok (.pop, 1) := by decide +kernel
theorem dX2_settle_56 : decode cX2_settle 56 = .ok (.goto 86, 3) := by decide +kernel
theorem dX2_settle_59 : decode cX2_settle 59 = .ok (.aload_n 0, 1) := by decide +kernel
theorem dX2_settle_60 : decode cX2_settle 60 = .ok (.getfield 22, 3) := by decide +kernel
theorem dX2_settle_63 : decode cX2_settle 63 = .ok (.aload_n 0, 1) := by decide +kernel
theorem dX2_settle_64 : decode cX2_settle 64 = .ok (.getfield 15, 3) := by decide +kernel
theorem dX2_settle_67 : decode cX2_settle 67 = .ok (.iconst 0, 1) := by decide +kernel
theorem dX2_settle_68 : decode cX2_settle 68 = .ok (.iaload, 1) := by decide +kernel
theorem dX2_settle_69 : decode cX2_settle 69 = .ok (.aload_n 0, 1) := by decide +kernel
theorem dX2_settle_70 : decode cX2_settle 70 = .ok (.getfield 15, 3) := by decide +kernel
theorem dX2_settle_73 : decode cX2_settle 73 = .ok (.iconst 1, 1) := by decide +kernel
theorem dX2_settle_74 : decode cX2_settle 74 = .ok (.iaload, 1) := by decide +kernel
theorem dX2_settle_75 : decode cX2_settle 75 = .ok (.aload_n 0, 1) := by decide +kernel
theorem dX2_settle_76 : decode cX2_settle 76 = .ok (.getfield 15, 3) := by decide +kernel
theorem dX2_settle_79 : decode cX2_settle 79 = .ok (.iconst 2, 1) := by decide +kernel
theorem dX2_settle_80 : decode cX2_settle 80 = .ok (.iaload, 1) := by decide +kernel
theorem dX2_settle_81 : decode cX2_settle 81 = .ok (.aload_n 0, 1) := by decide +kernel
theorem dX2_settle_82 : decode cX2_settle 82 = .ok (.getfield 15, 3) := by decide +kernel
theorem dX2_settle_85 : decode cX2_settle 85 = .ok (.iconst 3, 1) := by decide +kernel
theorem dX2_settle_86 : decode cX2_settle 86 = .ok (.iaload, 1) := by decide +kernel
theorem dX2_settle_87 : decode cX2_settle 87 = .ok (.invokevirtual 110, 3) := by decide +kernel
theorem dX2_settle_90 : decode cX2_settle 90 = .ok (.pop, 1) := by decide +kernel
theorem dX2_settle_91 : decode cX2_settle 91 = .ok (.goto 51, 3) := by decide +kernel
theorem dX2_settle_94 : decode cX2_settle 94 = .ok (.aload_n 0, 1) := by decide +kernel
theorem dX2_settle_95 : decode cX2_settle 95 = .ok (.getfield 22, 3) := by decide +kernel
theorem dX2_settle_98 : decode cX2_settle 98 = .ok (.aload_n 0, 1) := by decide +kernel
theorem dX2_settle_99 : decode cX2_settle 99 = .ok (.getfield 15, 3) := by decide +kernel
theorem dX2_settle_102 : decode cX2_settle 102 = .ok (.iconst 0, 1) := by decide +kernel
theorem dX2_settle_103 : decode cX2_settle 103 = .ok (.iaload, 1) := by decide +kernel
theorem dX2_settle_104 : decode cX2_settle 104 = .ok (.aload_n 0, 1) := by decide +kernel
theorem dX2_settle_105 : decode cX2_settle 105 = .ok (.getfield 15, 3) := by decide +kernel
theorem dX2_settle_108 : decode cX2_settle 108 = .ok (.iconst 1, 1) := by decide +kernel
theorem dX2_settle_109 : decode cX2_settle 109 = .ok (.iaload, 1) := by decide +kernel
theorem dX2_settle_110 : decode cX2_settle 110 = .ok (.aload_n 0, 1) := by decide +kernel
theorem dX2_settle_111 : decode cX2_settle 111 = .ok (.getfield 15, 3) := by decide +kernel
theorem dX2_settle_114 : decode cX2_settle 114 = .ok (.iconst 2, 1) := by decide +kernel
theorem dX2_settle_115 : decode cX2_settle 115 = .ok (.iaload, 1) := by decide +kernel
theorem dX2_settle_116 : decode cX2_settle 116 = .ok (.invokevirtual 113, 3) := by decide +kernel
theorem dX2_settle_119 : decode cX2_settle 119 = .ok (.goto 23, 3) := by decide +kernel
theorem dX2_settle_122 : decode cX2_settle 122 = .ok (.aload_n 0, 1) := by decide +kernel
theorem dX2_settle_123 : decode cX2_settle 123 = .ok (.getfield 22, 3) := by decide +kernel
theorem dX2_settle_126 : decode cX2_settle 126 = .ok (.getfield 117, 3) := by decide +kernel
theorem dX2_settle_129 : decode cX2_settle 129 = .ok (.aload_n 0, 1) := by decide +kernel
theorem dX2_settle_130 : decode cX2_settle 130 = .ok (.getfield 15, 3) := by decide +kernel
theorem dX2_settle_133 : decode cX2_settle 133 = .ok (.iconst 0, 1) := by decide +kernel
theorem dX2_settle_134 : decode cX2_settle 134 = .ok (.iaload, 1) := by decide +kernel
theorem dX2_settle_135 : decode cX2_settle 135 = .ok (.aload_n 0, 1) := by decide +kernel
theorem dX2_settle_136 : decode cX2_settle 136 = .ok (.getfield 15, 3) := by decide +kernel
theorem dX2_settle_139 : decode cX2_settle 139 = .ok (.iconst 1, 1) := by decide +kernel
theorem dX2_settle_140 : decode cX2_settle 140 = .ok (.iaload, 1) := by decide +kernel
theorem dX2_settle_141 : decode cX2_settle 141 = .ok (.iastore, 1) := by decide +kernel
theorem dX2_settle_142 : decode cX2_settle 142 = .ok (.return_, 1) := by decide +kernel
set_option maxHeartbeats 4000000 in
set_option maxRecDepth 100000 in
theorem c_X2_settle (l : Launch) (D : va_G) (cI cC cO : ClassId) (t : Nat → Nat) (r : Nat → Nat) (T : Mm) (R : Mm) (x1 : Int32) (res : Mm) (sz : Nat) (h : F_X2_settle T R x1 = some res) : Met l yX2_settle (Cond.code yX2_settle cX2_settle 2 (Option.none : Option Jvm.ClassFile.FieldType) :: lw_g) ({ frames := 3, cells := 0, slots := 0, locals := 71 } : Room) (va_Pc [.ref (t 0), .int x1] (pS D cI cC cO sz (wX2 t r cI cC cO T R))) (QV D cI cC cO (va_A (wX2 t r cI cC cO T R) sz) (wX2 t r cI cC cO T res)) 0 0 (va_A (wX2 t r cI cC cO T R) sz) := by
  refine Met.ofW (cc := cX2_settle) (maxL := 2) (ret := (Option.none : Option Jvm.ClassFile.FieldType)) (by decide) rfl ?_
  intro p e s m args below meth c s₁ B hml hv
  obtain ⟨rfl, rfl, hP, hK, hD0, hN⟩ := hv
  have hx := B.exec
  have hb := B.bytes
  have hr := B.returns
  have ht : ∀ w ∈ lw_g, w.before ([.ref (t 0), .int x1] : List Value).toArray s = true := fun w hw => atoms_spec (ws := Cond.code yX2_settle cX2_settle 2 (Option.none : Option Jvm.ClassFile.FieldType) :: lw_g) B.pre w (List.mem_cons_of_mem _ hw)
  have hown : s.vm.findClass RX2 = some m.cls := findClass_of_methodNamed B.named
  have hlocks := B.notSynchronized
  have hD := hD0.self (sz := s.heap.size)
  generalize hAe : va_A (wX2 t r cI cC cO T R) s.heap.size = A at hD ⊢
  have hA : ∀ q : Nat, s.heap.size ≤ q → A q := fun q hq => by rw [← hAe]; exact Or.inr hq
  have hS : va_S A s.heap s.heap [] := va_S.rf
  have hl := lv_entry ([.ref (t 0), .int x1]) (n := 2) (Nat.le_of_ble_eq_true rfl)
  rw [lg_entry_eq]
  generalize (lg_sl ([.ref (t 0), .int x1]) ++ List.replicate (2 - (lg_sl ([.ref (t 0), .int x1])).length) Slot.unset).toArray = ls at hl ⊢
  have hl : lv_has ls 2 [(0, .ref (t 0)), (1, .int x1)] := hl
  unfold F_X2_settle at h
  refine lv_iload_n hx hb dX2_settle_0 rfl (lv_at hl 1 rfl) ?_
  by_cases c1 : x1 = (104 : Int32)
  · replace h := fp c1 h
    refine lv_lookup (off := 35) (tgt := 36) hx hb dX2_settle_1 (by decide) (by rw [c1]; decide) (by decide) ?_
    refine lv_aload_n hx hb dX2_settle_36 rfl (lv_at hl 0 rfl) ?_
    refine va_get (D := D) (ci := 2) (v := .ref (r 0)) (C := RX2) (T := TX2) (N := 9) hx hb ht i_X2 hown hK hP 0 rfl rfl 2 (by decide) (ht _ wd_107) (fun _ h9 => h9) rfl dX2_settle_37 ?_
    refine lv_aload_n hx hb dX2_settle_40 rfl (lv_at hl 0 rfl) ?_
    refine va_get (D := D) (ci := 2) (v := .ref (t 2)) (C := RX2) (T := TX2) (N := 9) hx hb ht i_X2 hown hK hP 0 rfl rfl 1 (by decide) (ht _ wd_106) (fun _ h9 => h9) rfl dX2_settle_41 ?_
    refine lv_iconst (v := (0 : Int32)) hx hb dX2_settle_44 (by decide) ?_
    obtain ⟨i2, h⟩ := ck_ok h
    refine va_iald hx hb hK hP 2 0 rfl rfl i2 dX2_settle_45 ?_
    refine lv_aload_n hx hb dX2_settle_46 rfl (lv_at hl 0 rfl) ?_
    refine va_get (D := D) (ci := 2) (v := .ref (t 2)) (C := RX2) (T := TX2) (N := 9) hx hb ht i_X2 hown hK hP 0 rfl rfl 1 (by decide) (ht _ wd_106) (fun _ h9 => h9) rfl dX2_settle_47 ?_
    refine lv_iconst (v := (1 : Int32)) hx hb dX2_settle_50 (by decide) ?_
    obtain ⟨i3, h⟩ := ck_ok h
    refine va_iald hx hb hK hP 2 0 rfl rfl i3 dX2_settle_51 ?_
    obtain ⟨u4, R5, e6, h⟩ := b2_ok h
    refine cl_Vi (ws' := (wX2 t r cI cC cO T R5)) ⟨hx, hb, hml, hown, ht⟩ (c_X1_addPlace l D cI cC cO r R (T 1 (0 : Int32).toNatClampNeg) (T 1 (1 : Int32).toNatClampNeg) _ _ e6) (cwv 2 ht wd_186 wd_2 wd_514 wd_184 wd_185 (by decide +kernel) rfl rfl ⟨Nat.le_of_ble_eq_true rfl, Nat.le_of_ble_eq_true rfl⟩) 1 0 rfl rfl rfl hK hP hD hS hA hN [3, 4, 5, 6] [0, 1, 2] [0, 1, 2, 3, 4, 5, 6] (by decide) rfl rfl (by decide) (by decide) rfl (by decide) rfl hl.1 rfl (Nat.le_of_ble_eq_true rfl) dX2_settle_52 ⟨Nat.le_of_ble_eq_true rfl, Nat.le_of_ble_eq_true rfl⟩ (fun H locs hP hD hS => ?_)
    refine lv_pop hx hb dX2_settle_55 rfl ?_
    refine lv_goto (tgt := 142) hx hb dX2_settle_56 (by decide) ?_
    cases h
    exact rt_v hx hb hr hlocks hS hP hK hD dX2_settle_142
  · replace h := fn c1 h
    by_cases c7 : x1 = (111 : Int32)
    · replace h := fp c7 h
      refine lv_lookup (off := 93) (tgt := 94) hx hb dX2_settle_1 (by decide) (by rw [c7]; decide) (by decide) ?_
      refine lv_aload_n hx hb dX2_settle_94 rfl (lv_at hl 0 rfl) ?_
      refine va_get (D := D) (ci := 2) (v := .ref (r 0)) (C := RX2) (T := TX2) (N := 9) hx hb ht i_X2 hown hK hP 0 rfl rfl 2 (by decide) (ht _ wd_107) (fun _ h9 => h9) rfl dX2_settle_95 ?_
      refine lv_aload_n hx hb dX2_settle_98 rfl (lv_at hl 0 rfl) ?_
      refine va_get (D := D) (ci := 2) (v := .ref (t 2)) (C := RX2) (T := TX2) (N := 9) hx hb ht i_X2 hown hK hP 0 rfl rfl 1 (by decide) (ht _ wd_106) (fun _ h9 => h9) rfl dX2_settle_99 ?_
      refine lv_iconst (v := (0 : Int32)) hx hb dX2_settle_102 (by decide) ?_
      obtain ⟨i8, h⟩ := ck_ok h
      refine va_iald hx hb hK hP 2 0 rfl rfl i8 dX2_settle_103 ?_
      refine lv_aload_n hx hb dX2_settle_104 rfl (lv_at hl 0 rfl) ?_
      refine va_get (D := D) (ci := 2) (v := .ref (t 2)) (C := RX2) (T := TX2) (N := 9) hx hb ht i_X2 hown hK hP 0 rfl rfl 1 (by decide) (ht _ wd_106) (fun _ h9 => h9) rfl dX2_settle_105 ?_
      refine lv_iconst (v := (1 : Int32)) hx hb dX2_settle_108 (by decide) ?_
      obtain ⟨i9, h⟩ := ck_ok h
      refine va_iald hx hb hK hP 2 0 rfl rfl i9 dX2_settle_109 ?_
      refine lv_aload_n hx hb dX2_settle_110 rfl (lv_at hl 0 rfl) ?_
      refine va_get (D := D) (ci := 2) (v := .ref (t 2)) (C := RX2) (T := TX2) (N := 9) hx hb ht i_X2 hown hK hP 0 rfl rfl 1 (by decide) (ht _ wd_106) (fun _ h9 => h9) rfl dX2_settle_111 ?_
      refine lv_iconst (v := (2 : Int32)) hx hb dX2_settle_114 (by decide) ?_
      obtain ⟨i10, h⟩ := ck_ok h
      refine va_iald hx hb hK hP 2 0 rfl rfl i10 dX2_settle_115 ?_
      obtain ⟨R11, e12, h⟩ := b1_ok h
      refine cl_Vv (ws' := (wX2 t r cI cC cO T R11)) ⟨hx, hb, hml, hown, ht⟩ (c_X1_setOpening l D cI cC cO r R (T 1 (0 : Int32).toNatClampNeg) (T 1 (1 : Int32).toNatClampNeg) (T 1 (2 : Int32).toNatClampNeg) _ _ e12) (cwv 3 ht wd_214 wd_2 wd_516 wd_212 wd_213 (by decide +kernel) rfl rfl ⟨Nat.le_of_ble_eq_true rfl, Nat.le_of_ble_eq_true rfl⟩) 1 0 rfl rfl rfl hK hP hD hS hA hN [3, 4, 5, 6] [0, 1, 2] [0, 1, 2, 3, 4, 5, 6] (by decide) rfl rfl (by decide) (by decide) rfl (by decide) rfl hl.1 rfl (Nat.le_of_ble_eq_true rfl) dX2_settle_116 ⟨Nat.le_of_ble_eq_true rfl, Nat.le_of_ble_eq_true rfl⟩ (fun H locs hP hD hS => ?_)
      refine lv_goto (tgt := 142) hx hb dX2_settle_119 (by decide) ?_
      cases h
      exact rt_v hx hb hr hlocks hS hP hK hD dX2_settle_142
    · replace h := fn c7 h
      by_cases c13 : x1 = (112 : Int32)
      · replace h := fp c13 h
        refine lv_lookup (off := 58) (tgt := 59) hx hb dX2_settle_1 (by decide) (by rw [c13]; decide) (by decide) ?_
        refine lv_aload_n hx hb dX2_settle_59 rfl (lv_at hl 0 rfl) ?_
        refine va_get (D := D) (ci := 2) (v := .ref (r 0)) (C := RX2) (T := TX2) (N := 9) hx hb ht i_X2 hown hK hP 0 rfl rfl 2 (by decide) (ht _ wd_107) (fun _ h9 => h9) rfl dX2_settle_60 ?_
        refine lv_aload_n hx hb dX2_settle_63 rfl (lv_at hl 0 rfl) ?_
        refine va_get (D := D) (ci := 2) (v := .ref (t 2)) (C := RX2) (T := TX2) (N := 9) hx hb ht i_X2 hown hK hP 0 rfl rfl 1 (by decide) (ht _ wd_106) (fun _ h9 => h9) rfl dX2_settle_64 ?_
        refine lv_iconst (v := (0 : Int32)) hx hb dX2_settle_67 (by decide) ?_
        obtain ⟨i14, h⟩ := ck_ok h
        refine va_iald hx hb hK hP 2 0 rfl rfl i14 dX2_settle_68 ?_
        refine lv_aload_n hx hb dX2_settle_69 rfl (lv_at hl 0 rfl) ?_
        refine va_get (D := D) (ci := 2) (v := .ref (t 2)) (C := RX2) (T := TX2) (N := 9) hx hb ht i_X2 hown hK hP 0 rfl rfl 1 (by decide) (ht _ wd_106) (fun _ h9 => h9) rfl dX2_settle_70 ?_
        refine lv_iconst (v := (1 : Int32)) hx hb dX2_settle_73 (by decide) ?_
        obtain ⟨i15, h⟩ := ck_ok h
        refine va_iald hx hb hK hP 2 0 rfl rfl i15 dX2_settle_74 ?_
        refine lv_aload_n hx hb dX2_settle_75 rfl (lv_at hl 0 rfl) ?_
        refine va_get (D := D) (ci := 2) (v := .ref (t 2)) (C := RX2) (T := TX2) (N := 9) hx hb ht i_X2 hown hK hP 0 rfl rfl 1 (by decide) (ht _ wd_106) (fun _ h9 => h9) rfl dX2_settle_76 ?_
        refine lv_iconst (v := (2 : Int32)) hx hb dX2_settle_79 (by decide) ?_
        obtain ⟨i16, h⟩ := ck_ok h
        refine va_iald hx hb hK hP 2 0 rfl rfl i16 dX2_settle_80 ?_
        refine lv_aload_n hx hb dX2_settle_81 rfl (lv_at hl 0 rfl) ?_
        refine va_get (D := D) (ci := 2) (v := .ref (t 2)) (C := RX2) (T := TX2) (N := 9) hx hb ht i_X2 hown hK hP 0 rfl rfl 1 (by decide) (ht _ wd_106) (fun _ h9 => h9) rfl dX2_settle_82 ?_
        refine lv_iconst (v := (3 : Int32)) hx hb dX2_settle_85 (by decide) ?_
        obtain ⟨i17, h⟩ := ck_ok h
        refine va_iald hx hb hK hP 2 0 rfl rfl i17 dX2_settle_86 ?_
        obtain ⟨u18, R19, e20, h⟩ := b2_ok h
        refine cl_Vi (ws' := (wX2 t r cI cC cO T R19)) ⟨hx, hb, hml, hown, ht⟩ (c_X1_addPipe l D cI cC cO r R (T 1 (0 : Int32).toNatClampNeg) (T 1 (1 : Int32).toNatClampNeg) (T 1 (2 : Int32).toNatClampNeg) (T 1 (3 : Int32).toNatClampNeg) _ _ e20) (cwv 4 ht wd_206 wd_2 wd_515 wd_204 wd_205 (by decide +kernel) rfl rfl ⟨Nat.le_of_ble_eq_true rfl, Nat.le_of_ble_eq_true rfl⟩) 1 0 rfl rfl rfl hK hP hD hS hA hN [3, 4, 5, 6] [0, 1, 2] [0, 1, 2, 3, 4, 5, 6] (by decide) rfl rfl (by decide) (by decide) rfl (by decide) rfl hl.1 rfl (Nat.le_of_ble_eq_true rfl) dX2_settle_87 ⟨Nat.le_of_ble_eq_true rfl, Nat.le_of_ble_eq_true rfl⟩ (fun H locs hP hD hS => ?_)
        refine lv_pop hx hb dX2_settle_90 rfl ?_
        refine lv_goto (tgt := 142) hx hb dX2_settle_91 (by decide) ?_
        cases h
        exact rt_v hx hb hr hlocks hS hP hK hD dX2_settle_142
      · replace h := fn c13 h
        refine lv_lookup (off := 121) (tgt := 122) hx hb dX2_settle_1 (by decide) (by simp only [lookupswitch.offset_cons, lookupswitch.offset_nil, Array.toList]; rw [if_neg (lk_ne (k := 104) (by decide) c1), if_neg (lk_ne (k := 111) (by decide) c7), if_neg (lk_ne (k := 112) (by decide) c13)] <;> rfl) (by decide) ?_
        refine lv_aload_n hx hb dX2_settle_122 rfl (lv_at hl 0 rfl) ?_
        refine va_get (D := D) (ci := 2) (v := .ref (r 0)) (C := RX2) (T := TX2) (N := 9) hx hb ht i_X2 hown hK hP 0 rfl rfl 2 (by decide) (ht _ wd_107) (fun _ h9 => h9) rfl dX2_settle_123 ?_
        refine va_getN (D := D) (ci := 1) (v := .ref (r 1)) (C := RX1) (T := TX1) (N := 5) hx hb ht i_X1 hown hK hP 3 rfl rfl 0 (by decide) (va_Nw.use rfl (hN.1 _ _ _ _ _ _ wd_27)) (fun _ h9 => h9) rfl dX2_settle_126 ?_
        refine lv_aload_n hx hb dX2_settle_129 rfl (lv_at hl 0 rfl) ?_
        refine va_get (D := D) (ci := 2) (v := .ref (t 2)) (C := RX2) (T := TX2) (N := 9) hx hb ht i_X2 hown hK hP 0 rfl rfl 1 (by decide) (ht _ wd_106) (fun _ h9 => h9) rfl dX2_settle_130 ?_
        refine lv_iconst (v := (0 : Int32)) hx hb dX2_settle_133 (by decide) ?_
        obtain ⟨i21, h⟩ := ck_ok h
        refine va_iald hx hb hK hP 2 0 rfl rfl i21 dX2_settle_134 ?_
        refine lv_aload_n hx hb dX2_settle_135 rfl (lv_at hl 0 rfl) ?_
        refine va_get (D := D) (ci := 2) (v := .ref (t 2)) (C := RX2) (T := TX2) (N := 9) hx hb ht i_X2 hown hK hP 0 rfl rfl 1 (by decide) (ht _ wd_106) (fun _ h9 => h9) rfl dX2_settle_136 ?_
        refine lv_iconst (v := (1 : Int32)) hx hb dX2_settle_139 (by decide) ?_
        obtain ⟨i22, h⟩ := ck_ok h
        refine va_iald hx hb hK hP 2 0 rfl rfl i22 dX2_settle_140 ?_
        obtain ⟨i23, h⟩ := ck_ok h
        refine va_iast hx hb hK hP hD hS 4 0 rfl rfl i23 dX2_settle_141 (fun H locs hP hD hS => ?_)
        obtain ⟨R24, e25, h⟩ := sv_ok h
        have hP : va_P D classes (wX2 t r cI cC cO T R24) H := by rw [← e25]; exact hP
        have hD : va_D A (wX2 t r cI cC cO T R24) := by rw [← e25]; exact hD
        cases h
        exact rt_v hx hb hr hlocks hS hP hK hD dX2_settle_142
theorem dX2_readSetting_0 : decode cX2_readSetting 0 = .ok (.aload_n 0, 1) := by decide +kernel
theorem dX2_readSetting_1 : decode cX2_readSetting 1 = .ok (.aload_n 0, 1) := by decide +kernel
theorem dX2_readSetting_2 : decode cX2_readSetting 2 = .ok (.getfield 30, 3) := by decide +kernel
theorem dX2_readSetting_5 : decode cX2_readSetting 5 = .ok (.putfield 33, 3) := by decide +kernel
theorem dX2_readSetting_8 : decode cX2_readSetting 8 = .ok (.aload_n 0, 1) := by decide +kernel
theorem dX2_readSetting_9 : decode cX2_readSetting 9 = .ok (.getfield 9, 3) := by decide +kernel
theorem dX2_readSetting_12 : decode cX2_readSetting 12 = .ok (.aload_n 0, 1) := by decide +kernel
theorem dX2_readSetting_13 : decode cX2_readSetting 13 = .ok (.getfield 33, 3) := by decide +kernel
theorem dX2_readSetting_16 : decode cX2_readSetting 16 = .ok (.caload, 1) := by decide +kernel
theorem dX2_readSetting_17 : decode cX2_readSetting 17 = .ok (.istore_n 1, 1) := by decide +kernel
theorem dX2_readSetting_18 : decode cX2_readSetting 18 = .ok (.aload_n 0, 1) := by decide +kernel
theorem dX2_readSetting_19 : decode cX2_readSetting 19 = .ok (.iload_n 1, 1) := by decide +kernel
theorem dX2_readSetting_20 : decode cX2_readSetting 20 = .ok (.invokevirtual 53, 3) := by decide +kernel
theorem dX2_readSetting_23 : decode cX2_readSetting 23 = .ok (.ifCond .ne 22, 3) := by decide +kernel
theorem dX2_readSetting_26 : decode cX2_readSetting 26 = .ok (.aload_n 0, 1) := by decide +kernel
theorem dX2_readSetting_27 : decode cX2_readSetting 27 = .ok (.iconst 1, 1) := by decide +kernel
theorem dX2_readSetting_28 : decode cX2_readSetting 28 = .ok (.putfield 36, 3) := by decide +kernel
theorem dX2_readSetting_31 : decode cX2_readSetting 31 = .ok (.aload_n 0, 1) := by decide +kernel
theorem dX2_readSetting_32 : decode cX2_readSetting 32 = .ok (.aload_n 0, 1) := by decide +kernel
theorem dX2_readSetting_33 : decode cX2_readSetting 33 = .ok (.getfield 30, 3) := by decide +kernel
theorem dX2_readSetting_36 : decode cX2_readSetting 36 = .ok (.aload_n 0, 1) := by decide +kernel
theorem dX2_readSetting_37 : decode cX2_readSetting 37 = .ok (.getfield 33, 3) := by decide +kernel
theorem dX2_readSetting_40 : decode cX2_readSetting 40 = .ok (.isub, 1) := by decide +kernel
theorem dX2_readSetting_41 : decode cX2_readSetting 41 = .ok (.putfield 39, 3) := by decide +kernel
theorem dX2_readSetting_44 : decode cX2_readSetting 44 = .ok (.return_, 1) := by decide +kernel
theorem dX2_readSetting_45 : decode cX2_readSetting 45 = .ok (.aload_n 0, 1) := by decide +kernel
theorem dX2_readSetting_46 : decode cX2_readSetting 46 = .ok (.iload_n 1, 1) := by decide +kernel
theorem dX2_readSetting_47 : decode cX2_readSetting 47 = .ok (.invokevirtual 57, 3) := by decide +kernel
theorem dX2_readSetting_50 : decode cX2_readSetting 50 = .ok (.istore_n 2, 1) := by decide +kernel
theorem dX2_readSetting_51 : decode cX2_readSetting 51 = .ok (.iload_n 2, 1) := by decide +kernel
theorem dX2_readSetting_52 : decode cX2_readSetting 52 = .ok (.iconst (-1), 1) := by decide +kernel
theorem dX2_readSetting_53 : decode cX2_readSetting 53 = .ok (.if_icmp .eq 14, 3) := by decide +kernel
theorem dX2_readSetting_56 : decode cX2_readSetting 56 = .ok (.aload_n 0, 1) := by decide +kernel
theorem dX2_readSetting_57 : decode cX2_readSetting 57 = .ok (.iconst 2, 1) := by decide +kernel
theorem dX2_readSetting_58 : decode cX2_readSetting 58 = .ok (.putfield 36, 3) := by decide +kernel
theorem dX2_readSetting_61 : decode cX2_readSetting 61 = .ok (.aload_n 0, 1) := by decide +kernel
theorem dX2_readSetting_62 : decode cX2_readSetting 62 = .ok (.iload_n 2, 1) := by decide +kernel
theorem dX2_readSetting_63 : decode cX2_readSetting 63 = .ok (.putfield 39, 3) := by decide +kernel
theorem dX2_readSetting_66 : decode cX2_readSetting 66 = .ok (.return_, 1) := by decide +kernel
theorem dX2_readSetting_67 : decode cX2_readSetting 67 = .ok (.aload_n 0, 1) := by decide +kernel
theorem dX2_readSetting_68 : decode cX2_readSetting 68 = .ok (.iload_n 1, 1) := by decide +kernel
theorem dX2_readSetting_69 : decode cX2_readSetting 69 = .ok (.invokevirtual 61, 3) := by decide +kernel
theorem dX2_readSetting_72 : decode cX2_readSetting 72 = .ok (.ifCond .eq 9, 3) := by decide +kernel
theorem dX2_readSetting_75 : decode cX2_readSetting 75 = .ok (.aload_n 0, 1) := by decide +kernel
theorem dX2_readSetting_76 : decode cX2_readSetting 76 = .ok (.iconst 3, 1) := by decide +kernel
theorem dX2_readSetting_77 : decode cX2_readSetting 77 = .ok (.putfield 36, 3) := by decide +kernel
theorem dX2_readSetting_80 : decode cX2_readSetting 80 = .ok (.return_, 1) := by decide +kernel
theorem dX2_readSetting_81 : decode cX2_readSetting 81 = .ok (.aload_n 0, 1) := by decide +kernel
theorem dX2_readSetting_82 : decode cX2_readSetting 82 = .ok (.iload_n 1, 1) := by decide +kernel
theorem dX2_readSetting_83 : decode cX2_readSetting 83 = .ok (.invokevirtual 64, 3) := by decide +kernel
theorem dX2_readSetting_86 : decode cX2_readSetting 86 = .ok (.aload_n 0, 1) := by decide +kernel
theorem dX2_readSetting_87 : decode cX2_readSetting 87 = .ok (.dup, 1) := by decide +kernel
theorem dX2_readSetting_88 : decode cX2_readSetting 88 = .ok (.getfield 42, 3) := by decide +kernel
theorem dX2_readSetting_91 : decode cX2_readSetting 91 = .ok (.iconst 1, 1) := by decide +kernel
theorem dX2_readSetting_92 : decode cX2_readSetting 92 = .ok (.iadd, 1) := by decide +kernel
theorem dX2_readSetting_93 : decode cX2_readSetting 93 = .ok (.putfield 42, 3) := by decide +kernel
theorem dX2_readSetting_96 : decode cX2_readSetting 96 = .ok (.return_, 1) := by decide +kernel
set_option maxHeartbeats 4000000 in
set_option maxRecDepth 100000 in
theorem c_X2_readSetting (l : Launch) (D : va_G) (cI cC cO : ClassId) (t : Nat → Nat) (r : Nat → Nat) (T : Mm) (R : Mm) (res : Mm × Mm) (sz : Nat) (h : F_X2_readSetting T R = some res) : Met l yX2_readSetting (Cond.code yX2_readSetting cX2_readSetting 3 (Option.none : Option Jvm.ClassFile.FieldType) :: lw_g) ({ frames := 4, cells := 0, slots := 0, locals := 92 } : Room) (va_Pc [.ref (t 0)] (pS D cI cC cO sz (wX2 t r cI cC cO T R))) (QV D cI cC cO (va_A (wX2 t r cI cC cO T R) sz) (wX2 t r cI cC cO res.1 res.2)) 0 0 (va_A (wX2 t r cI cC cO T R) sz) := by
  refine Met.ofW (cc := cX2_readSetting) (maxL := 3) (ret := (Option.none : Option Jvm.ClassFile.FieldType)) (by decide) rfl ?_
  intro p e s m args below meth c s₁ B hml hv
  obtain ⟨rfl, rfl, hP, hK, hD0, hN⟩ := hv
  have hx := B.exec
  have hb := B.bytes
  have hr := B.returns
  have ht : ∀ w ∈ lw_g, w.before ([.ref (t 0)] : List Value).toArray s = true := fun w hw => atoms_spec (ws := Cond.code yX2_readSetting cX2_readSetting 3 (Option.none : Option Jvm.ClassFile.FieldType) :: lw_g) B.pre w (List.mem_cons_of_mem _ hw)
  have hown : s.vm.findClass RX2 = some m.cls := findClass_of_methodNamed B.named
  have hlocks := B.notSynchronized
  have hD := hD0.self (sz := s.heap.size)
  generalize hAe : va_A (wX2 t r cI cC cO T R) s.heap.size = A at hD ⊢
  have hA : ∀ q : Nat, s.heap.size ≤ q → A q := fun q hq => by rw [← hAe]; exact Or.inr hq
  have hS : va_S A s.heap s.heap [] := va_S.rf
  have hl := lv_entry ([.ref (t 0)]) (n := 3) (Nat.le_of_ble_eq_true rfl)
  rw [lg_entry_eq]
  generalize (lg_sl ([.ref (t 0)]) ++ List.replicate (3 - (lg_sl ([.ref (t 0)])).length) Slot.unset).toArray = ls at hl ⊢
  have hl : lv_has ls 3 [(0, .ref (t 0))] := hl
  unfold F_X2_readSetting at h
  refine lv_aload_n hx hb dX2_readSetting_0 rfl (lv_at hl 0 rfl) ?_
  refine lv_aload_n hx hb dX2_readSetting_1 rfl (lv_at hl 0 rfl) ?_
  refine va_get (D := D) (ci := 2) (v := .int (T 2 1)) (C := RX2) (T := TX2) (N := 9) hx hb ht i_X2 hown hK hP 0 rfl rfl 4 (by decide) (ht _ wd_111) (fun _ h9 => h9) rfl dX2_readSetting_2 ?_
  refine va_put (D := D) (ci := 2) (v := .int (T 2 1)) (ty := .int) (C := RX2) (T := TX2) (N := 9) hx hb ht i_X2 tyX2 tyX2_ok nmX2 hown hK hP hD hS 0 rfl rfl 5 (by decide) (ht _ wd_112) (fun _ h9 => h9) rfl (by decide +kernel) rfl rfl (Nat.le_of_ble_eq_true rfl) dX2_readSetting_5 (fun H locs hP hD hS => ?_)
  obtain ⟨T1, e2, h⟩ := sv_ok h
  have hP : va_P D classes (wX2 t r cI cC cO T1 R) H := by rw [← e2]; exact hP
  have hD : va_D A (wX2 t r cI cC cO T1 R) := by rw [← e2]; exact hD
  refine lv_aload_n hx hb dX2_readSetting_8 rfl (lv_at hl 0 rfl) ?_
  refine va_get (D := D) (ci := 2) (v := .ref (t 1)) (C := RX2) (T := TX2) (N := 9) hx hb ht i_X2 hown hK hP 0 rfl rfl 0 (by decide) (ht _ wd_105) (fun _ h9 => h9) rfl dX2_readSetting_9 ?_
  refine lv_aload_n hx hb dX2_readSetting_12 rfl (lv_at hl 0 rfl) ?_
  refine va_get (D := D) (ci := 2) (v := .int (T1 2 2)) (C := RX2) (T := TX2) (N := 9) hx hb ht i_X2 hown hK hP 0 rfl rfl 5 (by decide) (ht _ wd_112) (fun _ h9 => h9) rfl dX2_readSetting_13 ?_
  obtain ⟨i3, h⟩ := ck_ok h
  refine va_cald hx hb hK hP 1 1 rfl rfl i3 dX2_readSetting_16 ?_
  refine lv_istore_n (lv' := [(1, .int (T1 0 (T1 2 2).toNatClampNeg)), (0, .ref (t 0))]) hx hb dX2_readSetting_17 rfl hl (by decide) rfl (fun ls hl => ?_)
  refine lv_aload_n hx hb dX2_readSetting_18 rfl (lv_at hl 1 rfl) ?_
  refine lv_iload_n hx hb dX2_readSetting_19 rfl (lv_at hl 0 rfl) ?_
  obtain ⟨u4, T5, e6, h⟩ := b2_ok h
  refine cl_Vi (ws' := (wX2 t r cI cC cO T5 R)) ⟨hx, hb, hml, hown, ht⟩ (c_X2_readForm l D cI cC cO t r T1 R (T1 0 (T1 2 2).toNatClampNeg) _ _ e6) (cwv 1 ht wd_479 wd_5 wd_476 wd_478 ws_12 (by decide +kernel) rfl rfl ⟨Nat.le_of_ble_eq_true rfl, Nat.le_of_ble_eq_true rfl⟩) 2 0 rfl rfl rfl hK hP hD hS hA hN [0, 1, 2, 3, 4, 5, 6] [] [0, 1, 2, 3, 4, 5, 6] (by decide) rfl rfl (by decide) (by decide) rfl (by decide) rfl hl.1 rfl (Nat.le_of_ble_eq_true rfl) dX2_readSetting_20 ⟨Nat.le_of_ble_eq_true rfl, Nat.le_of_ble_eq_true rfl⟩ (fun H locs hP hD hS => ?_)
  refine lv_if_ne (tgt := 45) hx hb dX2_readSetting_23 (by decide) (fun c7 => ?_) (fun c7 => ?_)
  · replace h := fn c7 h
    refine lv_aload_n hx hb dX2_readSetting_45 rfl (lv_at hl 1 rfl) ?_
    refine lv_iload_n hx hb dX2_readSetting_46 rfl (lv_at hl 0 rfl) ?_
    obtain ⟨u8, e9, h⟩ := b1_ok h
    refine cl_Vi (ws' := (wX2 t r cI cC cO T5 R)) ⟨hx, hb, hml, hown, ht⟩ (c_X2_badNumber l D cI cC cO t r T5 R (T1 0 (T1 2 2).toNatClampNeg) _ _ e9) (cwv 1 ht wd_499 wd_5 wd_496 wd_498 ws_16 (by decide +kernel) rfl rfl ⟨Nat.le_of_ble_eq_true rfl, Nat.le_of_ble_eq_true rfl⟩) 2 0 rfl rfl rfl hK hP hD hS hA hN [0, 1, 2, 3, 4, 5, 6] [] [0, 1, 2, 3, 4, 5, 6] (by decide) rfl rfl (by decide) (by decide) rfl (by decide) rfl hl.1 rfl (Nat.le_of_ble_eq_true rfl) dX2_readSetting_47 ⟨Nat.le_of_ble_eq_true rfl, Nat.le_of_ble_eq_true rfl⟩ (fun H locs hP hD hS => ?_)
    refine lv_istore_n (lv' := [(2, .int u8), (1, .int (T1 0 (T1 2 2).toNatClampNeg)), (0, .ref (t 0))]) hx hb dX2_readSetting_50 rfl hl (by decide) rfl (fun ls hl => ?_)
    refine lv_iload_n hx hb dX2_readSetting_51 rfl (lv_at hl 0 rfl) ?_
    refine lv_iconst (v := (-1 : Int32)) hx hb dX2_readSetting_52 (by decide) ?_
    refine lv_icmp_eq (tgt := 67) hx hb dX2_readSetting_53 (by decide) (fun c10 => ?_) (fun c10 => ?_)
    · replace h := fp c10 h
      refine lv_aload_n hx hb dX2_readSetting_67 rfl (lv_at hl 2 rfl) ?_
      refine lv_iload_n hx hb dX2_readSetting_68 rfl (lv_at hl 1 rfl) ?_
      obtain ⟨u11, e12, h⟩ := b1_ok h
      refine cl_Vi (ws' := (wX2 t r cI cC cO T5 R)) ⟨hx, hb, hml, hown, ht⟩ (c_X2_isBeyondLimit l D cI cC cO t r T5 R (T1 0 (T1 2 2).toNatClampNeg) _ _ e12) (cwv 1 ht wd_507 wd_5 wd_504 wd_506 ws_17 (by decide +kernel) rfl rfl ⟨Nat.le_of_ble_eq_true rfl, Nat.le_of_ble_eq_true rfl⟩) 2 0 rfl rfl rfl hK hP hD hS hA hN [0, 1, 2, 3, 4, 5, 6] [] [0, 1, 2, 3, 4, 5, 6] (by decide) rfl rfl (by decide) (by decide) rfl (by decide) rfl hl.1 rfl (Nat.le_of_ble_eq_true rfl) dX2_readSetting_69 ⟨Nat.le_of_ble_eq_true rfl, Nat.le_of_ble_eq_true rfl⟩ (fun H locs hP hD hS => ?_)
      refine lv_if_eq (tgt := 81) hx hb dX2_readSetting_72 (by decide) (fun c13 => ?_) (fun c13 => ?_)
      · replace h := fp c13 h
        refine lv_aload_n hx hb dX2_readSetting_81 rfl (lv_at hl 2 rfl) ?_
        refine lv_iload_n hx hb dX2_readSetting_82 rfl (lv_at hl 1 rfl) ?_
        obtain ⟨R14, e15, h⟩ := b1_ok h
        refine cl_Vv (ws' := (wX2 t r cI cC cO T5 R14)) ⟨hx, hb, hml, hown, ht⟩ (c_X2_settle l D cI cC cO t r T5 R (T1 0 (T1 2 2).toNatClampNeg) _ _ e15) (cwv 1 ht wd_513 wd_5 wd_510 wd_512 ws_18 (by decide +kernel) rfl rfl ⟨Nat.le_of_ble_eq_true rfl, Nat.le_of_ble_eq_true rfl⟩) 2 0 rfl rfl rfl hK hP hD hS hA hN [0, 1, 2, 3, 4, 5, 6] [] [0, 1, 2, 3, 4, 5, 6] (by decide) rfl rfl (by decide) (by decide) rfl (by decide) rfl hl.1 rfl (Nat.le_of_ble_eq_true rfl) dX2_readSetting_83 ⟨Nat.le_of_ble_eq_true rfl, Nat.le_of_ble_eq_true rfl⟩ (fun H locs hP hD hS => ?_)
        refine lv_aload_n hx hb dX2_readSetting_86 rfl (lv_at hl 2 rfl) ?_
        refine lv_dup hx hb dX2_readSetting_87 rfl ?_
        refine va_get (D := D) (ci := 2) (v := .int (T5 2 5)) (C := RX2) (T := TX2) (N := 9) hx hb ht i_X2 hown hK hP 0 rfl rfl 8 (by decide) (ht _ wd_116) (fun _ h9 => h9) rfl dX2_readSetting_88 ?_
        refine lv_iconst (v := (1 : Int32)) hx hb dX2_readSetting_91 (by decide) ?_
        refine lv_iadd hx hb dX2_readSetting_92 ?_
        refine va_put (D := D) (ci := 2) (v := .int ((T5 2 5) + (1 : Int32))) (ty := .int) (C := RX2) (T := TX2) (N := 9) hx hb ht i_X2 tyX2 tyX2_ok nmX2 hown hK hP hD hS 0 rfl rfl 8 (by decide) (ht _ wd_116) (fun _ h9 => h9) rfl (by decide +kernel) rfl rfl (Nat.le_of_ble_eq_true rfl) dX2_readSetting_93 (fun H locs hP hD hS => ?_)
        obtain ⟨T16, e17, h⟩ := sv_ok h
        have hP : va_P D classes (wX2 t r cI cC cO T16 R14) H := by rw [← e17]; exact hP
        have hD : va_D A (wX2 t r cI cC cO T16 R14) := by rw [← e17]; exact hD
        cases h
        exact rt_v hx hb hr hlocks hS hP hK hD dX2_readSetting_96
      · replace h := fn c13 h
        refine lv_aload_n hx hb dX2_readSetting_75 rfl (lv_at hl 2 rfl) ?_
        refine lv_iconst (v := (3 : Int32)) hx hb dX2_readSetting_76 (by decide) ?_
        refine va_put (D := D) (ci := 2) (v := .int (3 : Int32)) (ty := .int) (C := RX2) (T := TX2) (N := 9) hx hb ht i_X2 tyX2 tyX2_ok nmX2 hown hK hP hD hS 0 rfl rfl 6 (by decide) (ht _ wd_113) (fun _ h9 => h9) rfl (by decide +kernel) rfl rfl (Nat.le_of_ble_eq_true rfl) dX2_readSetting_77 (fun H locs hP hD hS => ?_)
        obtain ⟨T18, e19, h⟩ := sv_ok h
        have hP : va_P D classes (wX2 t r cI cC cO T18 R) H := by rw [← e19]; exact hP
        have hD : va_D A (wX2 t r cI cC cO T18 R) := by rw [← e19]; exact hD
        cases h
        exact rt_v hx hb hr hlocks hS hP hK hD dX2_readSetting_80
    · replace h := fn c10 h
      refine lv_aload_n hx hb dX2_readSetting_56 rfl (lv_at hl 2 rfl) ?_
      refine lv_iconst (v := (2 : Int32)) hx hb dX2_readSetting_57 (by decide) ?_
      refine va_put (D := D) (ci := 2) (v := .int (2 : Int32)) (ty := .int) (C := RX2) (T := TX2) (N := 9) hx hb ht i_X2 tyX2 tyX2_ok nmX2 hown hK hP hD hS 0 rfl rfl 6 (by decide) (ht _ wd_113) (fun _ h9 => h9) rfl (by decide +kernel) rfl rfl (Nat.le_of_ble_eq_true rfl) dX2_readSetting_58 (fun H locs hP hD hS => ?_)
      obtain ⟨T20, e21, h⟩ := sv_ok h
      have hP : va_P D classes (wX2 t r cI cC cO T20 R) H := by rw [← e21]; exact hP
      have hD : va_D A (wX2 t r cI cC cO T20 R) := by rw [← e21]; exact hD
      refine lv_aload_n hx hb dX2_readSetting_61 rfl (lv_at hl 2 rfl) ?_
      refine lv_iload_n hx hb dX2_readSetting_62 rfl (lv_at hl 0 rfl) ?_
      refine va_put (D := D) (ci := 2) (v := .int u8) (ty := .int) (C := RX2) (T := TX2) (N := 9) hx hb ht i_X2 tyX2 tyX2_ok nmX2 hown hK hP hD hS 0 rfl rfl 7 (by decide) (ht _ wd_115) (fun _ h9 => h9) rfl (by decide +kernel) rfl rfl (Nat.le_of_ble_eq_true rfl) dX2_readSetting_63 (fun H locs hP hD hS => ?_)
      obtain ⟨T22, e23, h⟩ := sv_ok h
      have hP : va_P D classes (wX2 t r cI cC cO T22 R) H := by rw [← e23]; exact hP
      have hD : va_D A (wX2 t r cI cC cO T22 R) := by rw [← e23]; exact hD
      cases h
      exact rt_v hx hb hr hlocks hS hP hK hD dX2_readSetting_66
  · replace h := fp c7 h
    refine lv_aload_n hx hb dX2_readSetting_26 rfl (lv_at hl 1 rfl) ?_
    refine lv_iconst (v := (1 : Int32)) hx hb dX2_readSetting_27 (by decide) ?_
    refine va_put (D := D) (ci := 2) (v := .int (1 : Int32)) (ty := .int) (C := RX2) (T := TX2) (N := 9) hx hb ht i_X2 tyX2 tyX2_ok nmX2 hown hK hP hD hS 0 rfl rfl 6 (by decide) (ht _ wd_113) (fun _ h9 => h9) rfl (by decide +kernel) rfl rfl (Nat.le_of_ble_eq_true rfl) dX2_readSetting_28 (fun H locs hP hD hS => ?_)
    obtain ⟨T24, e25, h⟩ := sv_ok h
    have hP : va_P D classes (wX2 t r cI cC cO T24 R) H := by rw [← e25]; exact hP
    have hD : va_D A (wX2 t r cI cC cO T24 R) := by rw [← e25]; exact hD
    refine lv_aload_n hx hb dX2_readSetting_31 rfl (lv_at hl 1 rfl) ?_
    refine lv_aload_n hx hb dX2_readSetting_32 rfl (lv_at hl 1 rfl) ?_
    refine va_get (D := D) (ci := 2) (v := .int (T24 2 1)) (C := RX2) (T := TX2) (N := 9) hx hb ht i_X2 hown hK hP 0 rfl rfl 4 (by decide) (ht _ wd_111) (fun _ h9 => h9) rfl dX2_readSetting_33 ?_
    refine lv_aload_n hx hb dX2_readSetting_36 rfl (lv_at hl 1 rfl) ?_
    refine va_get (D := D) (ci := 2) (v := .int (T24 2 2)) (C := RX2) (T := TX2) (N := 9) hx hb ht i_X2 hown hK hP 0 rfl rfl 5 (by decide) (ht _ wd_112) (fun _ h9 => h9) rfl dX2_readSetting_37 ?_
    refine lv_isub hx hb dX2_readSetting_40 ?_
    refine va_put (D := D) (ci := 2) (v := .int ((T24 2 1) - (T24 2 2))) (ty := .int) (C := RX2) (T := TX2) (N := 9) hx hb ht i_X2 tyX2 tyX2_ok nmX2 hown hK hP hD hS 0 rfl rfl 7 (by decide) (ht _ wd_115) (fun _ h9 => h9) rfl (by decide +kernel) rfl rfl (Nat.le_of_ble_eq_true rfl) dX2_readSetting_41 (fun H locs hP hD hS => ?_)
    obtain ⟨T26, e27, h⟩ := sv_ok h
    have hP : va_P D classes (wX2 t r cI cC cO T26 R) H := by rw [← e27]; exact hP
    have hD : va_D A (wX2 t r cI cC cO T26 R) := by rw [← e27]; exact hD
    cases h
    exact rt_v hx hb hr hlocks hS hP hK hD dX2_readSetting_44
theorem dX2_read_0 : decode cX2_read 0 = .ok (.aload_n 0, 1) := by decide +kernel
theorem dX2_read_1 : decode cX2_read 1 = .ok (.getfield 22, 3) := by decide +kernel
theorem dX2_read_4 : decode cX2_read 4 = .ok (.aload_n 1, 1) := by decide +kernel
theorem dX2_read_5 : decode cX2_read 5 = .ok (.invokevirtual 46, 3) := by decide +kernel
theorem dX2_read_8 : decode cX2_read 8 = .ok (.aload_n 0, 1) := by decide +kernel
theorem dX2_read_9 : decode cX2_read 9 = .ok (.iconst 0, 1) := by decide +kernel
theorem dX2_read_10 : decode cX2_read 10 = .ok (.putfield 30, 3) := by decide +kernel
theorem dX2_read_13 : decode cX2_read 13 = .ok (.aload_n 0, 1) := by decide +kernel
theorem dX2_read_14 : decode cX2_read 14 = .ok (.iconst 0, 1) := by decide +kernel
theorem dX2_read_15 : decode cX2_read 15 = .ok (.putfield 36, 3) := by decide +kernel
theorem dX2_read_18 : decode cX2_read 18 = .ok (.aload_n 0, 1) := by decide +kernel
theorem dX2_read_19 : decode cX2_read 19 = .ok (.iconst 0, 1) := by decide +kernel
theorem dX2_read_20 : decode cX2_read 20 = .ok (.putfield 42, 3) := by decide +kernel
theorem dX2_read_23 : decode cX2_read 23 = .ok (.iconst 0, 1) := by decide +kernel
theorem dX2_read_24 : decode cX2_read 24 = .ok (.istore_n 2, 1) := by decide +kernel
theorem dX2_read_25 : decode cX2_read 25 = .ok (.iload_n 2, 1) := by decide +kernel
theorem dX2_read_26 : decode cX2_read 26 = .ok (.bipush 60, 2) := by decide +kernel
theorem dX2_read_28 : decode cX2_read 28 = .ok (.if_icmp .ge 31, 3) := by decide +kernel
theorem dX2_read_31 : decode cX2_read 31 = .ok (.aload_n 0, 1) := by decide +kernel
theorem dX2_read_32 : decode cX2_read 32 = .ok (.getfield 30, 3) := by decide +kernel
theorem dX2_read_35 : decode cX2_read 35 = .ok (.aload_n 0, 1) := by decide +kernel
theorem dX2_read_36 : decode cX2_read 36 = .ok (.getfield 26, 3) := by decide +kernel
theorem dX2_read_39 : decode cX2_read 39 = .ok (.if_icmp .ge 20, 3) := by decide +kernel
theorem dX2_read_42 : decode cX2_read 42 = .ok (.aload_n 0, 1) := by decide +kernel
theorem dX2_read_43 : decode cX2_read 43 = .ok (.getfield 36, 3) := by decide +kernel
theorem dX2_read_46 : decode cX2_read 46 = .ok (.ifCond .ne 13, 3) := by decide +kernel
theorem dX2_read_49 : decode cX2_read 49 = .ok (.aload_n 0, 1) := by decide +kernel
theorem dX2_read_50 : decode cX2_read 50 = .ok (.invokevirtual 50, 3) := by decide +kernel
theorem dX2_read_53 : decode cX2_read 53 = .ok (.iinc 2 1, 3) := by decide +kernel
theorem dX2_read_56 : decode cX2_read 56 = .ok (.goto (-31), 3) := by decide +kernel
theorem dX2_read_59 : decode cX2_read 59 = .ok (.return_, 1) := by decide +kernel
set_option maxHeartbeats 4000000 in
set_option maxRecDepth 100000 in
theorem c_X2_read (l : Launch) (D : va_G) (cI cC cO : ClassId) (t : Nat → Nat) (r : Nat → Nat) (b : Nat → Nat) (T : Mm) (R : Mm) (O : Mm) (res : Mm × Mm) (sz : Nat) (h : F_X2_read T R O = some res) : Met l yX2_read (Cond.code yX2_read cX2_read 3 (Option.none : Option Jvm.ClassFile.FieldType) :: lw_g) ({ frames := 5, cells := 0, slots := 0, locals := 114 } : Room) (va_Pc [.ref (t 0), .ref (b 0)] (pS D cI cC cO sz ((wX2 t r cI cC cO T R) ++ (wX1 b cI cC cO O)))) (QV D cI cC cO (va_A ((wX2 t r cI cC cO T R) ++ (wX1 b cI cC cO O)) sz) ((wX2 t r cI cC cO res.1 res.2) ++ (wX1 b cI cC cO O))) 0 0 (va_A ((wX2 t r cI cC cO T R) ++ (wX1 b cI cC cO O)) sz) := by
  refine Met.ofW (cc := cX2_read) (maxL := 3) (ret := (Option.none : Option Jvm.ClassFile.FieldType)) (by decide) rfl ?_
  intro p e s m args below meth c s₁ B hml hv
  obtain ⟨rfl, rfl, hP, hK, hD0, hN⟩ := hv
  have hx := B.exec
  have hb := B.bytes
  have hr := B.returns
  have ht : ∀ w ∈ lw_g, w.before ([.ref (t 0), .ref (b 0)] : List Value).toArray s = true := fun w hw => atoms_spec (ws := Cond.code yX2_read cX2_read 3 (Option.none : Option Jvm.ClassFile.FieldType) :: lw_g) B.pre w (List.mem_cons_of_mem _ hw)
  have hown : s.vm.findClass RX2 = some m.cls := findClass_of_methodNamed B.named
  have hlocks := B.notSynchronized
  have hD := hD0.self (sz := s.heap.size)
  generalize hAe : va_A ((wX2 t r cI cC cO T R) ++ (wX1 b cI cC cO O)) s.heap.size = A at hD ⊢
  have hA : ∀ q : Nat, s.heap.size ≤ q → A q := fun q hq => by rw [← hAe]; exact Or.inr hq
  have hS : va_S A s.heap s.heap [] := va_S.rf
  have hl := lv_entry ([.ref (t 0), .ref (b 0)]) (n := 3) (Nat.le_of_ble_eq_true rfl)
  rw [lg_entry_eq]
  generalize (lg_sl ([.ref (t 0), .ref (b 0)]) ++ List.replicate (3 - (lg_sl ([.ref (t 0), .ref (b 0)])).length) Slot.unset).toArray = ls at hl ⊢
  have hl : lv_has ls 3 [(0, .ref (t 0)), (1, .ref (b 0))] := hl
  have w25 : ∀ (n25 : Nat) (T : Mm) (R : Mm) (y2 : Int32) (H : Heap) (locs : List Loc) (ls : Array Slot), F_X2_read_25 n25 T R O y2 = some res → va_P D classes ((wX2 t r cI cC cO T R) ++ (wX1 b cI cC cO O)) H → va_D A ((wX2 t r cI cC cO T R) ++ (wX1 b cI cC cO O)) → va_S A s.heap H locs → lv_has ls 3 [(0, .ref (t 0)), (2, .int y2)] → W p l e ({ frames := 5, cells := 0, slots := 0, locals := 114 } : Room) s m ([.ref (t 0), .ref (b 0)] : List Value).toArray below meth c H locs 0 0 (MQ below (QV D cI cC cO A ((wX2 t r cI cC cO res.1 res.2) ++ (wX1 b cI cC cO O))) ([.ref (t 0), .ref (b 0)] : List Value).toArray s 0 0 A) (F0 m 25 ls []) := by
    intro n25
    induction n25 with
    | zero => intro T R y2 H locs ls h hP hD hS hl; exact absurd (show (none : Option (Mm × Mm)) = some res from h) (by simp)
    | succ n25 ih25 =>
      intro T R y2 H locs ls h hP hD hS hl
      have h : F_X2_readB_25 (F_X2_read_25 n25) T R O y2 = some res := h
      unfold F_X2_readB_25 at h
      refine lv_iload_n hx hb dX2_read_25 rfl (lv_at hl 1 rfl) ?_
      refine lv_bipush (v := (60 : Int32)) hx hb dX2_read_26 (by decide) ?_
      refine lv_icmp_ge (tgt := 59) hx hb dX2_read_28 (by decide) (fun c1 => ?_) (fun c1 => ?_)
      · replace h := fp c1 h
        cases h
        exact rt_v hx hb hr hlocks hS hP hK hD dX2_read_59
      · replace h := fn c1 h
        refine lv_aload_n hx hb dX2_read_31 rfl (lv_at hl 0 rfl) ?_
        refine va_get (D := D) (ci := 2) (v := .int (T 2 1)) (C := RX2) (T := TX2) (N := 9) hx hb ht i_X2 hown hK hP 0 rfl rfl 4 (by decide) (ht _ wd_111) (fun _ h9 => h9) rfl dX2_read_32 ?_
        refine lv_aload_n hx hb dX2_read_35 rfl (lv_at hl 0 rfl) ?_
        refine va_get (D := D) (ci := 2) (v := .int (T 2 0)) (C := RX2) (T := TX2) (N := 9) hx hb ht i_X2 hown hK hP 0 rfl rfl 3 (by decide) (ht _ wd_109) (fun _ h9 => h9) rfl dX2_read_36 ?_
        refine lv_icmp_ge (tgt := 59) hx hb dX2_read_39 (by decide) (fun c2 => ?_) (fun c2 => ?_)
        · replace h := fp c2 h
          cases h
          exact rt_v hx hb hr hlocks hS hP hK hD dX2_read_59
        · replace h := fn c2 h
          refine lv_aload_n hx hb dX2_read_42 rfl (lv_at hl 0 rfl) ?_
          refine va_get (D := D) (ci := 2) (v := .int (T 2 3)) (C := RX2) (T := TX2) (N := 9) hx hb ht i_X2 hown hK hP 0 rfl rfl 6 (by decide) (ht _ wd_113) (fun _ h9 => h9) rfl dX2_read_43 ?_
          refine lv_if_ne (tgt := 59) hx hb dX2_read_46 (by decide) (fun c3 => ?_) (fun c3 => ?_)
          · replace h := fn c3 h
            cases h
            exact rt_v hx hb hr hlocks hS hP hK hD dX2_read_59
          · replace h := fp c3 h
            refine lv_aload_n hx hb dX2_read_49 rfl (lv_at hl 0 rfl) ?_
            obtain ⟨T4, R5, e6, h⟩ := b2_ok h
            refine cl_Vv (ws' := ((wX2 t r cI cC cO T4 R5) ++ (wX1 b cI cC cO O))) ⟨hx, hb, hml, hown, ht⟩ (c_X2_readSetting l D cI cC cO t r T R _ _ e6) (cwv 0 ht wd_475 wd_5 wd_472 wd_474 ws_11 (by decide +kernel) rfl rfl ⟨Nat.le_of_ble_eq_true rfl, Nat.le_of_ble_eq_true rfl⟩) 2 0 rfl rfl rfl hK hP hD hS hA hN [0, 1, 2, 3, 4, 5, 6] [7, 8, 9, 10] [4, 5, 6, 7, 8, 9, 10, 0, 1, 2, 3] (by decide) rfl rfl (by decide) (by decide) rfl (by decide) rfl hl.1 rfl (Nat.le_of_ble_eq_true rfl) dX2_read_50 ⟨Nat.le_of_ble_eq_true rfl, Nat.le_of_ble_eq_true rfl⟩ (fun H locs hP hD hS => ?_)
            refine lv_iinc (v := (y2 + 1)) (lv' := [(2, .int (y2 + 1)), (0, .ref (t 0))]) hx hb dX2_read_53 hl (k := 1) rfl rfl (by decide) rfl (fun ls hl => ?_)
            refine lv_goto (tgt := 25) hx hb dX2_read_56 (by decide) ?_
            exact ih25 T4 R5 (y2 + 1) _ _ ls h hP hD hS (lv_sub hl [1, 0] rfl)
  unfold F_X2_read at h
  refine lv_aload_n hx hb dX2_read_0 rfl (lv_at hl 0 rfl) ?_
  refine va_get (D := D) (ci := 2) (v := .ref (r 0)) (C := RX2) (T := TX2) (N := 9) hx hb ht i_X2 hown hK hP 0 rfl rfl 2 (by decide) (ht _ wd_107) (fun _ h9 => h9) rfl dX2_read_1 ?_
  refine lv_aload_n hx hb dX2_read_4 rfl (lv_at hl 1 rfl) ?_
  obtain ⟨R1, e2, h⟩ := b1_ok h
  refine cl_Vv (ws' := ((wX2 t r cI cC cO T R1) ++ (wX1 b cI cC cO O))) ⟨hx, hb, hml, hown, ht⟩ (c_X1_copyFrom l D cI cC cO r b R O _ _ e2) (cwv 1 ht wd_179 wd_2 wd_471 wd_177 wd_178 (by decide +kernel) rfl rfl ⟨Nat.le_of_ble_eq_true rfl, Nat.le_of_ble_eq_true rfl⟩) 1 0 rfl rfl rfl hK hP hD hS hA hN [3, 4, 5, 6, 7, 8, 9, 10] [0, 1, 2] [0, 1, 2, 3, 4, 5, 6, 7, 8, 9, 10] (by decide) rfl rfl (by decide) (by decide) rfl (by decide) rfl hl.1 rfl (Nat.le_of_ble_eq_true rfl) dX2_read_5 ⟨Nat.le_of_ble_eq_true rfl, Nat.le_of_ble_eq_true rfl⟩ (fun H locs hP hD hS => ?_)
  refine lv_aload_n hx hb dX2_read_8 rfl (lv_at hl 0 rfl) ?_
  refine lv_iconst (v := (0 : Int32)) hx hb dX2_read_9 (by decide) ?_
  refine va_put (D := D) (ci := 2) (v := .int (0 : Int32)) (ty := .int) (C := RX2) (T := TX2) (N := 9) hx hb ht i_X2 tyX2 tyX2_ok nmX2 hown hK hP hD hS 0 rfl rfl 4 (by decide) (ht _ wd_111) (fun _ h9 => h9) rfl (by decide +kernel) rfl rfl (Nat.le_of_ble_eq_true rfl) dX2_read_10 (fun H locs hP hD hS => ?_)
  obtain ⟨T3, e4, h⟩ := sv_ok h
  have hP : va_P D classes ((wX2 t r cI cC cO T3 R1) ++ (wX1 b cI cC cO O)) H := by rw [← e4]; exact hP
  have hD : va_D A ((wX2 t r cI cC cO T3 R1) ++ (wX1 b cI cC cO O)) := by rw [← e4]; exact hD
  refine lv_aload_n hx hb dX2_read_13 rfl (lv_at hl 0 rfl) ?_
  refine lv_iconst (v := (0 : Int32)) hx hb dX2_read_14 (by decide) ?_
  refine va_put (D := D) (ci := 2) (v := .int (0 : Int32)) (ty := .int) (C := RX2) (T := TX2) (N := 9) hx hb ht i_X2 tyX2 tyX2_ok nmX2 hown hK hP hD hS 0 rfl rfl 6 (by decide) (ht _ wd_113) (fun _ h9 => h9) rfl (by decide +kernel) rfl rfl (Nat.le_of_ble_eq_true rfl) dX2_read_15 (fun H locs hP hD hS => ?_)
  obtain ⟨T5, e6, h⟩ := sv_ok h
  have hP : va_P D classes ((wX2 t r cI cC cO T5 R1) ++ (wX1 b cI cC cO O)) H := by rw [← e6]; exact hP
  have hD : va_D A ((wX2 t r cI cC cO T5 R1) ++ (wX1 b cI cC cO O)) := by rw [← e6]; exact hD
  refine lv_aload_n hx hb dX2_read_18 rfl (lv_at hl 0 rfl) ?_
  refine lv_iconst (v := (0 : Int32)) hx hb dX2_read_19 (by decide) ?_
  refine va_put (D := D) (ci := 2) (v := .int (0 : Int32)) (ty := .int) (C := RX2) (T := TX2) (N := 9) hx hb ht i_X2 tyX2 tyX2_ok nmX2 hown hK hP hD hS 0 rfl rfl 8 (by decide) (ht _ wd_116) (fun _ h9 => h9) rfl (by decide +kernel) rfl rfl (Nat.le_of_ble_eq_true rfl) dX2_read_20 (fun H locs hP hD hS => ?_)
  obtain ⟨T7, e8, h⟩ := sv_ok h
  have hP : va_P D classes ((wX2 t r cI cC cO T7 R1) ++ (wX1 b cI cC cO O)) H := by rw [← e8]; exact hP
  have hD : va_D A ((wX2 t r cI cC cO T7 R1) ++ (wX1 b cI cC cO O)) := by rw [← e8]; exact hD
  refine lv_iconst (v := (0 : Int32)) hx hb dX2_read_23 (by decide) ?_
  refine lv_istore_n (lv' := [(2, .int (0 : Int32)), (0, .ref (t 0)), (1, .ref (b 0))]) hx hb dX2_read_24 rfl hl (by decide) rfl (fun ls hl => ?_)
  exact w25 FU T7 R1 (0 : Int32) _ _ ls h hP hD hS (lv_sub hl [1, 0] rfl)
theorem dX4_has_0 : decode cX4_has 0 = .ok (.iload_n 0, 1) := by decide +kernel
theorem dX4_has_1 : decode cX4_has 1 = .ok (.iload_n 1, 1) := by decide +kernel
theorem dX4_has_2 : decode cX4_has 2 = .ok (.ishr, 1) := by decide +kernel
theorem dX4_has_3 : decode cX4_has 3 = .ok (.iconst 1, 1) := by decide +kernel
theorem dX4_has_4 : decode cX4_has 4 = .ok (.iand, 1) := by decide +kernel
theorem dX4_has_5 : decode cX4_has 5 = .ok (.iconst 1, 1) := by decide +kernel
theorem dX4_has_6 : decode cX4_has 6 = .ok (.if_icmp .ne 7, 3) := by decide +kernel
theorem dX4_has_9 : decode cX4_has 9 = .ok (.iconst 1, 1) := by decide +kernel
theorem dX4_has_10 : decode cX4_has 10 = .ok (.goto 4, 3) := by decide +kernel
theorem dX4_has_13 : decode cX4_has 13 = .ok (.iconst 0, 1) := by decide +kernel
theorem dX4_has_14 : decode cX4_has 14 = .ok (.ireturn, 1) := by decide +kernel
set_option maxHeartbeats 4000000 in
set_option maxRecDepth 100000 in
theorem c_X4_has (l : Launch) (D : va_G) (cI cC cO : ClassId) (x0 x1 : Int32) (res : Int32) (sz : Nat) (h : F_X4_has x0 x1 = some res) : Met l yX4_has (Cond.code yX4_has cX4_has 2 (Option.some Jvm.ClassFile.FieldType.boolean) :: lw_g) ({ frames := 0, cells := 0, slots := 0, locals := 0 } : Room) (va_Pc [.int x0, .int x1] (pS D cI cC cO sz ([] : va_W))) (QI D cI cC cO (va_A ([] : va_W) sz) ([] : va_W) res) 0 0 (va_A ([] : va_W) sz) := by
  refine Met.ofW (cc := cX4_has) (maxL := 2) (ret := (Option.some Jvm.ClassFile.FieldType.boolean)) (by decide) rfl ?_
  intro p e s m args below meth c s₁ B hml hv
  obtain ⟨rfl, rfl, hP, hK, hD0, hN⟩ := hv
  have hx := B.exec
  have hb := B.bytes
  have hr := B.returns
  have ht : ∀ w ∈ lw_g, w.before ([.int x0, .int x1] : List Value).toArray s = true := fun w hw => atoms_spec (ws := Cond.code yX4_has cX4_has 2 (Option.some Jvm.ClassFile.FieldType.boolean) :: lw_g) B.pre w (List.mem_cons_of_mem _ hw)
  have hown : s.vm.findClass RX4 = some m.cls := findClass_of_methodNamed B.named
  have hlocks := B.notSynchronized
  have hD := hD0.self (sz := s.heap.size)
  generalize hAe : va_A ([] : va_W) s.heap.size = A at hD ⊢
  have hA : ∀ q : Nat, s.heap.size ≤ q → A q := fun q hq => by rw [← hAe]; exact Or.inr hq
  have hS : va_S A s.heap s.heap [] := va_S.rf
  have hl := lv_entry ([.int x0, .int x1]) (n := 2) (Nat.le_of_ble_eq_true rfl)
  rw [lg_entry_eq]
  generalize (lg_sl ([.int x0, .int x1]) ++ List.replicate (2 - (lg_sl ([.int x0, .int x1])).length) Slot.unset).toArray = ls at hl ⊢
  have hl : lv_has ls 2 [(0, .int x0), (1, .int x1)] := hl
  unfold F_X4_has at h
  refine lv_iload_n hx hb dX4_has_0 rfl (lv_at hl 0 rfl) ?_
  refine lv_iload_n hx hb dX4_has_1 rfl (lv_at hl 1 rfl) ?_
  refine lv_ishr hx hb dX4_has_2 ?_
  refine lv_iconst (v := (1 : Int32)) hx hb dX4_has_3 (by decide) ?_
  refine lv_iand hx hb dX4_has_4 ?_
  refine lv_iconst (v := (1 : Int32)) hx hb dX4_has_5 (by decide) ?_
  refine lv_icmp_ne (tgt := 13) hx hb dX4_has_6 (by decide) (fun c1 => ?_) (fun c1 => ?_)
  · replace h := fn c1 h
    refine lv_iconst (v := (0 : Int32)) hx hb dX4_has_13 (by decide) ?_
    cases h
    exact rt_z (v := (0 : Int32)) hx hb hr rfl hlocks hS hP hK hD dX4_has_14
  · replace h := fp c1 h
    refine lv_iconst (v := (1 : Int32)) hx hb dX4_has_9 (by decide) ?_
    refine lv_goto (tgt := 14) hx hb dX4_has_10 (by decide) ?_
    cases h
    exact rt_z (v := (1 : Int32)) hx hb hr rfl hlocks hS hP hK hD dX4_has_14
