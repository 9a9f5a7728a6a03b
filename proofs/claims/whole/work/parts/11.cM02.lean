theorem dX5_isOpen_0 : decode cX5_isOpen 0 = .ok (.aload_n 0, 1) := by decide +kernel
theorem dX5_isOpen_1 : decode cX5_isOpen 1 = .ok (.getfield 60, 3) := by decide +kernel
theorem dX5_isOpen_4 : decode cX5_isOpen 4 = .ok (.ifCond .ge 22, 3) := by decide +kernel
theorem dX5_isOpen_7 : decode cX5_isOpen 7 = .ok (.iload_n 2, 1) := by decide +kernel
theorem dX5_isOpen_8 : decode cX5_isOpen 8 = .ok (.aload_n 0, 1) := by decide +kernel
theorem dX5_isOpen_9 : decode cX5_isOpen 9 = .ok (.iload_n 1, 1) := by decide +kernel
theorem dX5_isOpen_10 : decode cX5_isOpen 10 = .ok (.iconst 4, 1) := by decide +kernel
theorem dX5_isOpen_11 : decode cX5_isOpen 11 = .ok (.invokevirtual 101, 3) := by decide +kernel
theorem dX5_isOpen_14 : decode cX5_isOpen 14 = .ok (.aload_n 0, 1) := by decide +kernel
theorem dX5_isOpen_15 : decode cX5_isOpen 15 = .ok (.iload_n 1, 1) := by decide +kernel
theorem dX5_isOpen_16 : decode cX5_isOpen 16 = .ok (.iconst 5, 1) := by decide +kernel
theorem dX5_isOpen_17 : decode cX5_isOpen 17 = .ok (.invokevirtual 101, 3) := by decide +kernel
theorem dX5_isOpen_20 : decode cX5_isOpen 20 = .ok (.invokestatic 63, 3) := by decide +kernel
theorem dX5_isOpen_23 : decode cX5_isOpen 23 = .ok (.ifCond .eq 7, 3) := by decide +kernel
theorem dX5_isOpen_26 : decode cX5_isOpen 26 = .ok (.iconst 1, 1) := by decide +kernel
theorem dX5_isOpen_27 : decode cX5_isOpen 27 = .ok (.goto 4, 3) := by decide +kernel
theorem dX5_isOpen_30 : decode cX5_isOpen 30 = .ok (.iconst 0, 1) := by decide +kernel
theorem dX5_isOpen_31 : decode cX5_isOpen 31 = .ok (.istore_n 3, 1) := by decide +kernel
theorem dX5_isOpen_32 : decode cX5_isOpen 32 = .ok (.iload_n 3, 1) := by decide +kernel
theorem dX5_isOpen_33 : decode cX5_isOpen 33 = .ok (.ifCond .eq 30, 3) := by decide +kernel
theorem dX5_isOpen_36 : decode cX5_isOpen 36 = .ok (.iload_n 1, 1) := by decide +kernel
theorem dX5_isOpen_37 : decode cX5_isOpen 37 = .ok (.aload_n 0, 1) := by decide +kernel
theorem dX5_isOpen_38 : decode cX5_isOpen 38 = .ok (.getfield 50, 3) := by decide +kernel
theorem dX5_isOpen_41 : decode cX5_isOpen 41 = .ok (.if_icmp .eq 22, 3) := by decide +kernel
theorem dX5_isOpen_44 : decode cX5_isOpen 44 = .ok (.iload_n 2, 1) := by decide +kernel
theorem dX5_isOpen_45 : decode cX5_isOpen 45 = .ok (.aload_n 0, 1) := by decide +kernel
theorem dX5_isOpen_46 : decode cX5_isOpen 46 = .ok (.iload_n 1, 1) := by decide +kernel
theorem dX5_isOpen_47 : decode cX5_isOpen 47 = .ok (.iconst 2, 1) := by decide +kernel
theorem dX5_isOpen_48 : decode cX5_isOpen 48 = .ok (.invokevirtual 101, 3) := by decide +kernel
theorem dX5_isOpen_51 : decode cX5_isOpen 51 = .ok (.iadd, 1) := by decide +kernel
theorem dX5_isOpen_52 : decode cX5_isOpen 52 = .ok (.aload_n 0, 1) := by decide +kernel
theorem dX5_isOpen_53 : decode cX5_isOpen 53 = .ok (.getfield 112, 3) := by decide +kernel
theorem dX5_isOpen_56 : decode cX5_isOpen 56 = .ok (.if_icmp .gt 7, 3) := by decide +kernel
theorem dX5_isOpen_59 : decode cX5_isOpen 59 = .ok (.iconst 1, 1) := by decide +kernel
theorem dX5_isOpen_60 : decode cX5_isOpen 60 = .ok (.goto 4, 3) := by decide +kernel
theorem dX5_isOpen_63 : decode cX5_isOpen 63 = .ok (.iconst 0, 1) := by decide +kernel
theorem dX5_isOpen_64 : decode cX5_isOpen 64 = .ok (.ireturn, 1) := by decide +kernel
set_option maxHeartbeats 4000000 in
set_option maxRecDepth 100000 in
theorem c_X5_isOpen (l : Launch) (D : va_G) (cI cC cO : ClassId) (a : Nat → Nat) (M : Mm) (x1 x2 : Int32) (res : Int32) (sz : Nat) (h : F_X5_isOpen M x1 x2 = some res) : Met l yX5_isOpen (Cond.code yX5_isOpen cX5_isOpen 4 (Option.some Jvm.ClassFile.FieldType.boolean) :: lw_g) ({ frames := 1, cells := 0, slots := 0, locals := 22 } : Room) (va_Pc [.ref (a 0), .int x1, .int x2] (pS D cI cC cO sz (wX5 a cI cC cO M))) (QI D cI cC cO (va_A (wX5 a cI cC cO M) sz) (wX5 a cI cC cO M) res) 0 0 (va_A (wX5 a cI cC cO M) sz) := by
  refine Met.ofW (cc := cX5_isOpen) (maxL := 4) (ret := (Option.some Jvm.ClassFile.FieldType.boolean)) (by decide) rfl ?_
  intro p e s m args below meth c s₁ B hml hv
  obtain ⟨rfl, rfl, hP, hK, hD0, hN⟩ := hv
  have hx := B.exec
  have hb := B.bytes
  have hr := B.returns
  have ht : ∀ w ∈ lw_g, w.before ([.ref (a 0), .int x1, .int x2] : List Value).toArray s = true := fun w hw => atoms_spec (ws := Cond.code yX5_isOpen cX5_isOpen 4 (Option.some Jvm.ClassFile.FieldType.boolean) :: lw_g) B.pre w (List.mem_cons_of_mem _ hw)
  have hown : s.vm.findClass RX5 = some m.cls := findClass_of_methodNamed B.named
  have hlocks := B.notSynchronized
  have hD := hD0.self (sz := s.heap.size)
  generalize hAe : va_A (wX5 a cI cC cO M) s.heap.size = A at hD ⊢
  have hA : ∀ q : Nat, s.heap.size ≤ q → A q := fun q hq => by rw [← hAe]; exact Or.inr hq
  have hS : va_S A s.heap s.heap [] := va_S.rf
  have hl := lv_entry ([.ref (a 0), .int x1, .int x2]) (n := 4) (Nat.le_of_ble_eq_true rfl)
  rw [lg_entry_eq]
  generalize (lg_sl ([.ref (a 0), .int x1, .int x2]) ++ List.replicate (4 - (lg_sl ([.ref (a 0), .int x1, .int x2])).length) Slot.unset).toArray = ls at hl ⊢
  have hl : lv_has ls 4 [(0, .ref (a 0)), (1, .int x1), (2, .int x2)] := hl
  have w31 : ∀ (y1 y2 s0 : Int32) (H : Heap) (locs : List Loc) (ls : Array Slot), F_X5_isOpen_31 M y1 y2 s0 = some res → va_P D classes (wX5 a cI cC cO M) H → va_D A (wX5 a cI cC cO M) → va_S A s.heap H locs → lv_has ls 4 [(0, .ref (a 0)), (1, .int y1), (2, .int y2)] → W p l e ({ frames := 1, cells := 0, slots := 0, locals := 22 } : Room) s m ([.ref (a 0), .int x1, .int x2] : List Value).toArray below meth c H locs 0 0 (MQ below (QI D cI cC cO A (wX5 a cI cC cO M) res) ([.ref (a 0), .int x1, .int x2] : List Value).toArray s 0 0 A) (F0 m 31 ls [.int s0]) := by
    intro y1 y2 s0 H locs ls h hP hD hS hl
    unfold F_X5_isOpen_31 at h
    refine lv_istore_n (lv' := [(3, .int s0), (0, .ref (a 0)), (1, .int y1), (2, .int y2)]) hx hb dX5_isOpen_31 rfl hl (by decide) rfl (fun ls hl => ?_)
    refine lv_iload_n hx hb dX5_isOpen_32 rfl (lv_at hl 0 rfl) ?_
    refine lv_if_eq (tgt := 63) hx hb dX5_isOpen_33 (by decide) (fun c1 => ?_) (fun c1 => ?_)
    · replace h := fp c1 h
      refine lv_iconst (v := (0 : Int32)) hx hb dX5_isOpen_63 (by decide) ?_
      cases h
      exact rt_z (v := (0 : Int32)) hx hb hr rfl hlocks hS hP hK hD dX5_isOpen_64
    · replace h := fn c1 h
      refine lv_iload_n hx hb dX5_isOpen_36 rfl (lv_at hl 2 rfl) ?_
      refine lv_aload_n hx hb dX5_isOpen_37 rfl (lv_at hl 1 rfl) ?_
      refine va_get (D := D) (ci := 5) (v := .int (M 12 7)) (C := RX5) (T := TX5) (N := 23) hx hb ht i_X5 hown hK hP 0 rfl rfl 19 (by decide) (ht _ wd_555) (fun _ h9 => h9) rfl dX5_isOpen_38 ?_
      refine lv_icmp_eq (tgt := 63) hx hb dX5_isOpen_41 (by decide) (fun c2 => ?_) (fun c2 => ?_)
      · replace h := fp c2 h
        refine lv_iconst (v := (0 : Int32)) hx hb dX5_isOpen_63 (by decide) ?_
        cases h
        exact rt_z (v := (0 : Int32)) hx hb hr rfl hlocks hS hP hK hD dX5_isOpen_64
      · replace h := fn c2 h
        refine lv_iload_n hx hb dX5_isOpen_44 rfl (lv_at hl 3 rfl) ?_
        refine lv_aload_n hx hb dX5_isOpen_45 rfl (lv_at hl 1 rfl) ?_
        refine lv_iload_n hx hb dX5_isOpen_46 rfl (lv_at hl 2 rfl) ?_
        refine lv_iconst (v := (2 : Int32)) hx hb dX5_isOpen_47 (by decide) ?_
        obtain ⟨u3, e4, h⟩ := b1_ok h
        refine cl_Vi (ws' := (wX5 a cI cC cO M)) ⟨hx, hb, hml, hown, ht⟩ (c_X5_pi l D cI cC cO a M y1 (2 : Int32) _ _ e4) (cwv 2 ht wd_678 wd_6 wd_675 wd_677 ws_28 (by decide +kernel) rfl rfl ⟨Nat.le_of_ble_eq_true rfl, Nat.le_of_ble_eq_true rfl⟩) 5 0 rfl rfl rfl hK hP hD hS hA hN [0, 1, 2, 3, 4, 5, 6, 7, 8, 9, 10, 11, 12] [] [0, 1, 2, 3, 4, 5, 6, 7, 8, 9, 10, 11, 12] (by decide) rfl rfl (by decide) (by decide) rfl (by decide) rfl hl.1 rfl (Nat.le_of_ble_eq_true rfl) dX5_isOpen_48 ⟨Nat.le_of_ble_eq_true rfl, Nat.le_of_ble_eq_true rfl⟩ (fun H locs hP hD hS => ?_)
        refine lv_iadd hx hb dX5_isOpen_51 ?_
        refine lv_aload_n hx hb dX5_isOpen_52 rfl (lv_at hl 1 rfl) ?_
        refine va_get (D := D) (ci := 5) (v := .int (M 12 5)) (C := RX5) (T := TX5) (N := 23) hx hb ht i_X5 hown hK hP 0 rfl rfl 17 (by decide) (ht _ wd_553) (fun _ h9 => h9) rfl dX5_isOpen_53 ?_
        refine lv_icmp_gt (tgt := 63) hx hb dX5_isOpen_56 (by decide) (fun c5 => ?_) (fun c5 => ?_)
        · replace h := fp c5 h
          refine lv_iconst (v := (0 : Int32)) hx hb dX5_isOpen_63 (by decide) ?_
          cases h
          exact rt_z (v := (0 : Int32)) hx hb hr rfl hlocks hS hP hK hD dX5_isOpen_64
        · replace h := fn c5 h
          refine lv_iconst (v := (1 : Int32)) hx hb dX5_isOpen_59 (by decide) ?_
          refine lv_goto (tgt := 64) hx hb dX5_isOpen_60 (by decide) ?_
          cases h
          exact rt_z (v := (1 : Int32)) hx hb hr rfl hlocks hS hP hK hD dX5_isOpen_64
  have w26 : ∀ (y1 y2 : Int32) (H : Heap) (locs : List Loc) (ls : Array Slot), F_X5_isOpen_26 M y1 y2 = some res → va_P D classes (wX5 a cI cC cO M) H → va_D A (wX5 a cI cC cO M) → va_S A s.heap H locs → lv_has ls 4 [(0, .ref (a 0)), (1, .int y1), (2, .int y2)] → W p l e ({ frames := 1, cells := 0, slots := 0, locals := 22 } : Room) s m ([.ref (a 0), .int x1, .int x2] : List Value).toArray below meth c H locs 0 0 (MQ below (QI D cI cC cO A (wX5 a cI cC cO M) res) ([.ref (a 0), .int x1, .int x2] : List Value).toArray s 0 0 A) (F0 m 26 ls []) := by
    intro y1 y2 H locs ls h hP hD hS hl
    unfold F_X5_isOpen_26 at h
    refine lv_iconst (v := (1 : Int32)) hx hb dX5_isOpen_26 (by decide) ?_
    refine lv_goto (tgt := 31) hx hb dX5_isOpen_27 (by decide) ?_
    exact w31 y1 y2 (1 : Int32) _ _ ls h hP hD hS (lv_sub hl [0, 1, 2] rfl)
  unfold F_X5_isOpen at h
  refine lv_aload_n hx hb dX5_isOpen_0 rfl (lv_at hl 0 rfl) ?_
  refine va_get (D := D) (ci := 5) (v := .int (M 12 10)) (C := RX5) (T := TX5) (N := 23) hx hb ht i_X5 hown hK hP 0 rfl rfl 22 (by decide) (ht _ wd_558) (fun _ h9 => h9) rfl dX5_isOpen_1 ?_
  refine lv_if_ge (tgt := 26) hx hb dX5_isOpen_4 (by decide) (fun c1 => ?_) (fun c1 => ?_)
  · replace h := fp c1 h
    exact w26 x1 x2 _ _ ls h hP hD hS (lv_sub hl [0, 1, 2] rfl)
  · replace h := fn c1 h
    refine lv_iload_n hx hb dX5_isOpen_7 rfl (lv_at hl 2 rfl) ?_
    refine lv_aload_n hx hb dX5_isOpen_8 rfl (lv_at hl 0 rfl) ?_
    refine lv_iload_n hx hb dX5_isOpen_9 rfl (lv_at hl 1 rfl) ?_
    refine lv_iconst (v := (4 : Int32)) hx hb dX5_isOpen_10 (by decide) ?_
    obtain ⟨u2, e3, h⟩ := b1_ok h
    refine cl_Vi (ws' := (wX5 a cI cC cO M)) ⟨hx, hb, hml, hown, ht⟩ (c_X5_pi l D cI cC cO a M x1 (4 : Int32) _ _ e3) (cwv 2 ht wd_678 wd_6 wd_675 wd_677 ws_28 (by decide +kernel) rfl rfl ⟨Nat.le_of_ble_eq_true rfl, Nat.le_of_ble_eq_true rfl⟩) 5 0 rfl rfl rfl hK hP hD hS hA hN [0, 1, 2, 3, 4, 5, 6, 7, 8, 9, 10, 11, 12] [] [0, 1, 2, 3, 4, 5, 6, 7, 8, 9, 10, 11, 12] (by decide) rfl rfl (by decide) (by decide) rfl (by decide) rfl hl.1 rfl (Nat.le_of_ble_eq_true rfl) dX5_isOpen_11 ⟨Nat.le_of_ble_eq_true rfl, Nat.le_of_ble_eq_true rfl⟩ (fun H locs hP hD hS => ?_)
    refine lv_aload_n hx hb dX5_isOpen_14 rfl (lv_at hl 0 rfl) ?_
    refine lv_iload_n hx hb dX5_isOpen_15 rfl (lv_at hl 1 rfl) ?_
    refine lv_iconst (v := (5 : Int32)) hx hb dX5_isOpen_16 (by decide) ?_
    obtain ⟨u4, e5, h⟩ := b1_ok h
    refine cl_Vi (ws' := (wX5 a cI cC cO M)) ⟨hx, hb, hml, hown, ht⟩ (c_X5_pi l D cI cC cO a M x1 (5 : Int32) _ _ e5) (cwv 2 ht wd_678 wd_6 wd_675 wd_677 ws_28 (by decide +kernel) rfl rfl ⟨Nat.le_of_ble_eq_true rfl, Nat.le_of_ble_eq_true rfl⟩) 5 0 rfl rfl rfl hK hP hD hS hA hN [0, 1, 2, 3, 4, 5, 6, 7, 8, 9, 10, 11, 12] [] [0, 1, 2, 3, 4, 5, 6, 7, 8, 9, 10, 11, 12] (by decide) rfl rfl (by decide) (by decide) rfl (by decide) rfl hl.1 rfl (Nat.le_of_ble_eq_true rfl) dX5_isOpen_17 ⟨Nat.le_of_ble_eq_true rfl, Nat.le_of_ble_eq_true rfl⟩ (fun H locs hP hD hS => ?_)
    obtain ⟨u6, e7, h⟩ := b1_ok h
    refine cl_Si (ws' := (wX5 a cI cC cO M)) ⟨hx, hb, hml, hown, ht⟩ (c_X5_in l D cI cC cO x2 u2 u4 _ _ e7) (cwst 3 ht wd_612 wd_6 wd_610 wd_611 (by decide +kernel) rfl rfl ⟨Nat.le_of_ble_eq_true rfl, Nat.le_of_ble_eq_true rfl⟩) hK hP hD hS hA hN [] [0, 1, 2, 3, 4, 5, 6, 7, 8, 9, 10, 11, 12] [0, 1, 2, 3, 4, 5, 6, 7, 8, 9, 10, 11, 12] (by decide) rfl rfl (by decide) (by decide) rfl (by decide) rfl hl.1 rfl (Nat.le_of_ble_eq_true rfl) dX5_isOpen_20 ⟨Nat.le_of_ble_eq_true rfl, Nat.le_of_ble_eq_true rfl⟩ (fun H locs hP hD hS => ?_)
    refine lv_if_eq (tgt := 30) hx hb dX5_isOpen_23 (by decide) (fun c8 => ?_) (fun c8 => ?_)
    · replace h := fp c8 h
      refine lv_iconst (v := (0 : Int32)) hx hb dX5_isOpen_30 (by decide) ?_
      exact w31 x1 x2 (0 : Int32) _ _ ls h hP hD hS (lv_sub hl [0, 1, 2] rfl)
    · replace h := fn c8 h
      exact w26 x1 x2 _ _ ls h hP hD hS (lv_sub hl [0, 1, 2] rfl)
theorem dX5_reaches_0 : decode cX5_reaches 0 = .ok (.aload_n 0, 1) := by decide +kernel
theorem dX5_reaches_1 : decode cX5_reaches 1 = .ok (.getfield 38, 3) := by decide +kernel
theorem dX5_reaches_4 : decode cX5_reaches 4 = .ok (.iload_n 1, 1) := by decide +kernel
theorem dX5_reaches_5 : decode cX5_reaches 5 = .ok (.iaload, 1) := by decide +kernel
theorem dX5_reaches_6 : decode cX5_reaches 6 = .ok (.ifCond .ge 37, 3) := by decide +kernel
theorem dX5_reaches_9 : decode cX5_reaches 9 = .ok (.aload_n 0, 1) := by decide +kernel
theorem dX5_reaches_10 : decode cX5_reaches 10 = .ok (.getfield 38, 3) := by decide +kernel
theorem dX5_reaches_13 : decode cX5_reaches 13 = .ok (.iload_n 1, 1) := by decide +kernel
theorem dX5_reaches_14 : decode cX5_reaches 14 = .ok (.iload_n 2, 1) := by decide +kernel
theorem dX5_reaches_15 : decode cX5_reaches 15 = .ok (.iastore, 1) := by decide +kernel
theorem dX5_reaches_16 : decode cX5_reaches 16 = .ok (.aload_n 0, 1) := by decide +kernel
theorem dX5_reaches_17 : decode cX5_reaches 17 = .ok (.getfield 41, 3) := by decide +kernel
theorem dX5_reaches_20 : decode cX5_reaches 20 = .ok (.iload_n 1, 1) := by decide +kernel
theorem dX5_reaches_21 : decode cX5_reaches 21 = .ok (.iload_n 3, 1) := by decide +kernel
theorem dX5_reaches_22 : decode cX5_reaches 22 = .ok (.iastore, 1) := by decide +kernel
theorem dX5_reaches_23 : decode cX5_reaches 23 = .ok (.aload_n 0, 1) := by decide +kernel
theorem dX5_reaches_24 : decode cX5_reaches 24 = .ok (.getfield 44, 3) := by decide +kernel
theorem dX5_reaches_27 : decode cX5_reaches 27 = .ok (.aload_n 0, 1) := by decide +kernel
theorem dX5_reaches_28 : decode cX5_reaches 28 = .ok (.getfield 115, 3) := by decide +kernel
theorem dX5_reaches_31 : decode cX5_reaches 31 = .ok (.iload_n 1, 1) := by decide +kernel
theorem dX5_reaches_32 : decode cX5_reaches 32 = .ok (.iastore, 1) := by decide +kernel
theorem dX5_reaches_33 : decode cX5_reaches 33 = .ok (.aload_n 0, 1) := by decide +kernel
theorem dX5_reaches_34 : decode cX5_reaches 34 = .ok (.dup, 1) := by decide +kernel
theorem dX5_reaches_35 : decode cX5_reaches 35 = .ok (.getfield 115, 3) := by decide +kernel
theorem dX5_reaches_38 : decode cX5_reaches 38 = .ok (.iconst 1, 1) := by decide +kernel
theorem dX5_reaches_39 : decode cX5_reaches 39 = .ok (.iadd, 1) := by decide +kernel
theorem dX5_reaches_40 : decode cX5_reaches 40 = .ok (.putfield 115, 3) := by decide +kernel
theorem dX5_reaches_43 : decode cX5_reaches 43 = .ok (.return_, 1) := by decide +kernel
set_option maxHeartbeats 4000000 in
set_option maxRecDepth 100000 in
theorem c_X5_reaches (l : Launch) (D : va_G) (cI cC cO : ClassId) (a : Nat → Nat) (M : Mm) (x1 x2 x3 : Int32) (res : Mm) (sz : Nat) (h : F_X5_reaches M x1 x2 x3 = some res) : Met l yX5_reaches (Cond.code yX5_reaches cX5_reaches 4 (Option.none : Option Jvm.ClassFile.FieldType) :: lw_g) ({ frames := 0, cells := 0, slots := 0, locals := 0 } : Room) (va_Pc [.ref (a 0), .int x1, .int x2, .int x3] (pS D cI cC cO sz (wX5 a cI cC cO M))) (QV D cI cC cO (va_A (wX5 a cI cC cO M) sz) (wX5 a cI cC cO res)) 0 0 (va_A (wX5 a cI cC cO M) sz) := by
  refine Met.ofW (cc := cX5_reaches) (maxL := 4) (ret := (Option.none : Option Jvm.ClassFile.FieldType)) (by decide) rfl ?_
  intro p e s m args below meth c s₁ B hml hv
  obtain ⟨rfl, rfl, hP, hK, hD0, hN⟩ := hv
  have hx := B.exec
  have hb := B.bytes
  have hr := B.returns
  have ht : ∀ w ∈ lw_g, w.before ([.ref (a 0), .int x1, .int x2, .int x3] : List Value).toArray s = true := fun w hw => atoms_spec (ws := Cond.code yX5_reaches cX5_reaches 4 (Option.none : Option Jvm.ClassFile.FieldType) :: lw_g) B.pre w (List.mem_cons_of_mem _ hw)
  have hown : s.vm.findClass RX5 = some m.cls := findClass_of_methodNamed B.named
  have hlocks := B.notSynchronized
  have hD := hD0.self (sz := s.heap.size)
  generalize hAe : va_A (wX5 a cI cC cO M) s.heap.size = A at hD ⊢
  have hA : ∀ q : Nat, s.heap.size ≤ q → A q := fun q hq => by rw [← hAe]; exact Or.inr hq
  have hS : va_S A s.heap s.heap [] := va_S.rf
  have hl := lv_entry ([.ref (a 0), .int x1, .int x2, .int x3]) (n := 4) (Nat.le_of_ble_eq_true rfl)
  rw [lg_entry_eq]
  generalize (lg_sl ([.ref (a 0), .int x1, .int x2, .int x3]) ++ List.replicate (4 - (lg_sl ([.ref (a 0), .int x1, .int x2, .int x3])).length) Slot.unset).toArray = ls at hl ⊢
  have hl : lv_has ls 4 [(0, .ref (a 0)), (1, .int x1), (2, .int x2), (3, .int x3)] := hl
  unfold F_X5_reaches at h
  refine lv_aload_n hx hb dX5_reaches_0 rfl (lv_at hl 0 rfl) ?_
  refine va_get (D := D) (ci := 5) (v := .ref (a 10)) (C := RX5) (T := TX5) (N := 23) hx hb ht i_X5 hown hK hP 0 rfl rfl 14 (by decide) (ht _ wd_550) (fun _ h9 => h9) rfl dX5_reaches_1 ?_
  refine lv_iload_n hx hb dX5_reaches_4 rfl (lv_at hl 1 rfl) ?_
  obtain ⟨i1, h⟩ := ck_ok h
  refine va_iald hx hb hK hP 10 0 rfl rfl i1 dX5_reaches_5 ?_
  refine lv_if_ge (tgt := 43) hx hb dX5_reaches_6 (by decide) (fun c2 => ?_) (fun c2 => ?_)
  · replace h := fp c2 h
    cases h
    exact rt_v hx hb hr hlocks hS hP hK hD dX5_reaches_43
  · replace h := fn c2 h
    refine lv_aload_n hx hb dX5_reaches_9 rfl (lv_at hl 0 rfl) ?_
    refine va_get (D := D) (ci := 5) (v := .ref (a 10)) (C := RX5) (T := TX5) (N := 23) hx hb ht i_X5 hown hK hP 0 rfl rfl 14 (by decide) (ht _ wd_550) (fun _ h9 => h9) rfl dX5_reaches_10 ?_
    refine lv_iload_n hx hb dX5_reaches_13 rfl (lv_at hl 1 rfl) ?_
    refine lv_iload_n hx hb dX5_reaches_14 rfl (lv_at hl 2 rfl) ?_
    obtain ⟨i3, h⟩ := ck_ok h
    refine va_iast hx hb hK hP hD hS 10 0 rfl rfl i3 dX5_reaches_15 (fun H locs hP hD hS => ?_)
    obtain ⟨M4, e5, h⟩ := sv_ok h
    have hP : va_P D classes (wX5 a cI cC cO M4) H := by rw [← e5]; exact hP
    have hD : va_D A (wX5 a cI cC cO M4) := by rw [← e5]; exact hD
    refine lv_aload_n hx hb dX5_reaches_16 rfl (lv_at hl 0 rfl) ?_
    refine va_get (D := D) (ci := 5) (v := .ref (a 11)) (C := RX5) (T := TX5) (N := 23) hx hb ht i_X5 hown hK hP 0 rfl rfl 15 (by decide) (ht _ wd_551) (fun _ h9 => h9) rfl dX5_reaches_17 ?_
    refine lv_iload_n hx hb dX5_reaches_20 rfl (lv_at hl 1 rfl) ?_
    refine lv_iload_n hx hb dX5_reaches_21 rfl (lv_at hl 3 rfl) ?_
    obtain ⟨i6, h⟩ := ck_ok h
    refine va_iast hx hb hK hP hD hS 11 0 rfl rfl i6 dX5_reaches_22 (fun H locs hP hD hS => ?_)
    obtain ⟨M7, e8, h⟩ := sv_ok h
    have hP : va_P D classes (wX5 a cI cC cO M7) H := by rw [← e8]; exact hP
    have hD : va_D A (wX5 a cI cC cO M7) := by rw [← e8]; exact hD
    refine lv_aload_n hx hb dX5_reaches_23 rfl (lv_at hl 0 rfl) ?_
    refine va_get (D := D) (ci := 5) (v := .ref (a 12)) (C := RX5) (T := TX5) (N := 23) hx hb ht i_X5 hown hK hP 0 rfl rfl 16 (by decide) (ht _ wd_552) (fun _ h9 => h9) rfl dX5_reaches_24 ?_
    refine lv_aload_n hx hb dX5_reaches_27 rfl (lv_at hl 0 rfl) ?_
    refine va_get (D := D) (ci := 5) (v := .int (M7 12 6)) (C := RX5) (T := TX5) (N := 23) hx hb ht i_X5 hown hK hP 0 rfl rfl 18 (by decide) (ht _ wd_554) (fun _ h9 => h9) rfl dX5_reaches_28 ?_
    refine lv_iload_n hx hb dX5_reaches_31 rfl (lv_at hl 1 rfl) ?_
    obtain ⟨i9, h⟩ := ck_ok h
    refine va_iast hx hb hK hP hD hS 12 0 rfl rfl i9 dX5_reaches_32 (fun H locs hP hD hS => ?_)
    obtain ⟨M10, e11, h⟩ := sv_ok h
    have hP : va_P D classes (wX5 a cI cC cO M10) H := by rw [← e11]; exact hP
    have hD : va_D A (wX5 a cI cC cO M10) := by rw [← e11]; exact hD
    refine lv_aload_n hx hb dX5_reaches_33 rfl (lv_at hl 0 rfl) ?_
    refine lv_dup hx hb dX5_reaches_34 rfl ?_
    refine va_get (D := D) (ci := 5) (v := .int (M10 12 6)) (C := RX5) (T := TX5) (N := 23) hx hb ht i_X5 hown hK hP 0 rfl rfl 18 (by decide) (ht _ wd_554) (fun _ h9 => h9) rfl dX5_reaches_35 ?_
    refine lv_iconst (v := (1 : Int32)) hx hb dX5_reaches_38 (by decide) ?_
    refine lv_iadd hx hb dX5_reaches_39 ?_
    refine va_put (D := D) (ci := 5) (v := .int ((M10 12 6) + (1 : Int32))) (ty := .int) (C := RX5) (T := TX5) (N := 23) hx hb ht i_X5 tyX5 tyX5_ok nmX5 hown hK hP hD hS 0 rfl rfl 18 (by decide) (ht _ wd_554) (fun _ h9 => h9) rfl (by decide +kernel) rfl rfl (Nat.le_of_ble_eq_true rfl) dX5_reaches_40 (fun H locs hP hD hS => ?_)
    obtain ⟨M12, e13, h⟩ := sv_ok h
    have hP : va_P D classes (wX5 a cI cC cO M12) H := by rw [← e13]; exact hP
    have hD : va_D A (wX5 a cI cC cO M12) := by rw [← e13]; exact hD
    cases h
    exact rt_v hx hb hr hlocks hS hP hK hD dX5_reaches_43
theorem dX5_looks_0 : decode cX5_looks 0 = .ok (.iload_n 1, 1) := by decide +kernel
theorem dX5_looks_1 : decode cX5_looks 1 = .ok (.bipush 16, 2) := by decide +kernel
theorem dX5_looks_3 : decode cX5_looks 3 = .ok (.idiv, 1) := by decide +kernel
theorem dX5_looks_4 : decode cX5_looks 4 = .ok (.istore_n 2, 1) := by decide +kernel
theorem dX5_looks_5 : decode cX5_looks 5 = .ok (.iload_n 1, 1) := by decide +kernel
theorem dX5_looks_6 : decode cX5_looks 6 = .ok (.bipush 16, 2) := by decide +kernel
theorem dX5_looks_8 : decode cX5_looks 8 = .ok (.irem, 1) := by decide +kernel
theorem dX5_looks_9 : decode cX5_looks 9 = .ok (.istore_n 3, 1) := by decide +kernel
theorem dX5_looks_10 : decode cX5_looks 10 = .ok (.iload_n 3, 1) := by decide +kernel
theorem dX5_looks_11 : decode cX5_looks 11 = .ok (.aload_n 0, 1) := by decide +kernel
theorem dX5_looks_12 : decode cX5_looks 12 = .ok (.getfield 112, 3) := by decide +kernel
theorem dX5_looks_15 : decode cX5_looks 15 = .ok (.if_icmp .ge 26, 3) := by decide +kernel
theorem dX5_looks_18 : decode cX5_looks 18 = .ok (.aload_n 0, 1) := by decide +kernel
theorem dX5_looks_19 : decode cX5_looks 19 = .ok (.getfield 32, 3) := by decide +kernel
theorem dX5_looks_22 : decode cX5_looks 22 = .ok (.iload_n 1, 1) := by decide +kernel
theorem dX5_looks_23 : decode cX5_looks 23 = .ok (.iaload, 1) := by decide +kernel
theorem dX5_looks_24 : decode cX5_looks 24 = .ok (.aload_n 0, 1) := by decide +kernel
theorem dX5_looks_25 : decode cX5_looks 25 = .ok (.iload_n 2, 1) := by decide +kernel
theorem dX5_looks_26 : decode cX5_looks 26 = .ok (.invokevirtual 118, 3) := by decide +kernel
theorem dX5_looks_29 : decode cX5_looks 29 = .ok (.if_icmp .ge 12, 3) := by decide +kernel
theorem dX5_looks_32 : decode cX5_looks 32 = .ok (.aload_n 0, 1) := by decide +kernel
theorem dX5_looks_33 : decode cX5_looks 33 = .ok (.iload_n 1, 1) := by decide +kernel
theorem dX5_looks_34 : decode cX5_looks 34 = .ok (.iconst 1, 1) := by decide +kernel
theorem dX5_looks_35 : decode cX5_looks 35 = .ok (.iadd, 1) := by decide +kernel
theorem dX5_looks_36 : decode cX5_looks 36 = .ok (.iload_n 1, 1) := by decide +kernel
theorem dX5_looks_37 : decode cX5_looks 37 = .ok (.iconst 1, 1) := by decide +kernel
theorem dX5_looks_38 : decode cX5_looks 38 = .ok (.invokevirtual 121, 3) := by decide +kernel
theorem dX5_looks_41 : decode cX5_looks 41 = .ok (.iload_n 3, 1) := by decide +kernel
theorem dX5_looks_42 : decode cX5_looks 42 = .ok (.ifCond .le 23, 3) := by decide +kernel
theorem dX5_looks_45 : decode cX5_looks 45 = .ok (.aload_n 0, 1) := by decide +kernel
theorem dX5_looks_46 : decode cX5_looks 46 = .ok (.getfield 32, 3) := by decide +kernel
theorem dX5_looks_49 : decode cX5_looks 49 = .ok (.iload_n 1, 1) := by decide +kernel
theorem dX5_looks_50 : decode cX5_looks 50 = .ok (.iconst 1, 1) := by decide +kernel
theorem dX5_looks_51 : decode cX5_looks 51 = .ok (.isub, 1) := by decide +kernel
theorem dX5_looks_52 : decode cX5_looks 52 = .ok (.iaload, 1) := by decide +kernel
theorem dX5_looks_53 : decode cX5_looks 53 = .ok (.ifCond .le 12, 3) := by decide +kernel
theorem dX5_looks_56 : decode cX5_looks 56 = .ok (.aload_n 0, 1) := by decide +kernel
theorem dX5_looks_57 : decode cX5_looks 57 = .ok (.iload_n 1, 1) := by decide +kernel
theorem dX5_looks_58 : decode cX5_looks 58 = .ok (.iconst 1, 1) := by decide +kernel
theorem dX5_looks_59 : decode cX5_looks 59 = .ok (.isub, 1) := by decide +kernel
theorem dX5_looks_60 : decode cX5_looks 60 = .ok (.iload_n 1, 1) := by decide +kernel
theorem dX5_looks_61 : decode cX5_looks 61 = .ok (.iconst 2, 1) := by decide +kernel
theorem dX5_looks_62 : decode cX5_looks 62 = .ok (.invokevirtual 121, 3) := by decide +kernel
theorem dX5_looks_65 : decode cX5_looks 65 = .ok (.iconst 0, 1) := by decide +kernel
theorem dX5_looks_66 : decode cX5_looks 66 = .ok (.istore 4, 2) := by decide +kernel
theorem dX5_looks_68 : decode cX5_looks 68 = .ok (.iload 4, 2) := by decide +kernel
theorem dX5_looks_70 : decode cX5_looks 70 = .ok (.aload_n 0, 1) := by decide +kernel
theorem dX5_looks_71 : decode cX5_looks 71 = .ok (.getfield 7, 3) := by decide +kernel
theorem dX5_looks_74 : decode cX5_looks 74 = .ok (.iconst 1, 1) := by decide +kernel
theorem dX5_looks_75 : decode cX5_looks 75 = .ok (.iaload, 1) := by decide +kernel
theorem dX5_looks_76 : decode cX5_looks 76 = .ok (.if_icmp .ge 177, 3) := by decide +kernel
theorem dX5_looks_79 : decode cX5_looks 79 = .ok (.aload_n 0, 1) := by decide +kernel
theorem dX5_looks_80 : decode cX5_looks 80 = .ok (.iload 4, 2) := by decide +kernel
theorem dX5_looks_82 : decode cX5_looks 82 = .ok (.iconst 2, 1) := by decide +kernel
theorem dX5_looks_83 : decode cX5_looks 83 = .ok (.invokevirtual 101, 3) := by decide +kernel
theorem dX5_looks_86 : decode cX5_looks 86 = .ok (.istore 5, 2) := by decide +kernel
theorem dX5_looks_88 : decode cX5_looks 88 = .ok (.aload_n 0, 1) := by decide +kernel
theorem dX5_looks_89 : decode cX5_looks 89 = .ok (.iload 4, 2) := by decide +kernel
theorem dX5_looks_91 : decode cX5_looks 91 = .ok (.iconst 0, 1) := by decide +kernel
theorem dX5_looks_92 : decode cX5_looks 92 = .ok (.invokevirtual 101, 3) := by decide +kernel
theorem dX5_looks_95 : decode cX5_looks 95 = .ok (.iload_n 2, 1) := by decide +kernel
theorem dX5_looks_96 : decode cX5_looks 96 = .ok (.if_icmp .ne 21, 3) := by decide +kernel
theorem dX5_looks_99 : decode cX5_looks 99 = .ok (.iload_n 2, 1) := by decide +kernel
theorem dX5_looks_100 : decode cX5_looks 100 = .ok (.ifCond .eq 17, 3) := by decide +kernel
theorem dX5_looks_103 : decode cX5_looks 103 = .ok (.aload_n 0, 1) := by decide +kernel
theorem dX5_looks_104 : decode cX5_looks 104 = .ok (.iload 4, 2) := by decide +kernel
theorem dX5_looks_106 : decode cX5_looks 106 = .ok (.iload_n 3, 1) := by decide +kernel
theorem dX5_looks_107 : decode cX5_looks 107 = .ok (.invokevirtual 125, 3) := by decide +kernel
theorem dX5_looks_110 : decode cX5_looks 110 = .ok (.ifCond .eq 7, 3) := by decide +kernel
theorem dX5_looks_113 : decode cX5_looks 113 = .ok (.iconst 1, 1) := by decide +kernel
theorem dX5_looks_114 : decode cX5_looks 114 = .ok (.goto 4, 3) := by decide +kernel
theorem dX5_looks_117 : decode cX5_looks 117 = .ok (.iconst 0, 1) := by decide +kernel
theorem dX5_looks_118 : decode cX5_looks 118 = .ok (.istore 6, 2) := by decide +kernel
theorem dX5_looks_120 : decode cX5_looks 120 = .ok (.iload 6, 2) := by decide +kernel
theorem dX5_looks_122 : decode cX5_looks 122 = .ok (.ifCond .eq 65, 3) := by decide +kernel
theorem dX5_looks_125 : decode cX5_looks 125 = .ok (.aload_n 0, 1) := by decide +kernel
theorem dX5_looks_126 : decode cX5_looks 126 = .ok (.getfield 35, 3) := by decide +kernel
theorem dX5_looks_129 : decode cX5_looks 129 = .ok (.bipush 16, 2) := by decide +kernel
theorem dX5_looks_131 : decode cX5_looks 131 = .ok (.iload 4, 2) := by decide +kernel
theorem dX5_looks_133 : decode cX5_looks 133 = .ok (.imul, 1) := by decide +kernel
theorem dX5_looks_134 : decode cX5_looks 134 = .ok (.iload_n 3, 1) := by decide +kernel
theorem dX5_looks_135 : decode cX5_looks 135 = .ok (.iadd, 1) := by decide +kernel
theorem dX5_looks_136 : decode cX5_looks 136 = .ok (.iaload, 1) := by decide +kernel
theorem dX5_looks_137 : decode cX5_looks 137 = .ok (.aload_n 0, 1) := by decide +kernel
theorem dX5_looks_138 : decode cX5_looks 138 = .ok (.iload 4, 2) := by decide +kernel
theorem dX5_looks_140 : decode cX5_looks 140 = .ok (.iconst 3, 1) := by decide +kernel
theorem dX5_looks_141 : decode cX5_looks 141 = .ok (.invokevirtual 101, 3) := by decide +kernel
theorem dX5_looks_144 : decode cX5_looks 144 = .ok (.iload 4, 2) := by decide +kernel
theorem dX5_looks_146 : decode cX5_looks 146 = .ok (.aload_n 0, 1) := by decide +kernel
theorem dX5_looks_147 : decode cX5_looks 147 = .ok (.getfield 54, 3) := by decide +kernel
theorem dX5_looks_150 : decode cX5_looks 150 = .ok (.if_icmp .ne 7, 3) := by decide +kernel
theorem dX5_looks_153 : decode cX5_looks 153 = .ok (.iconst 1, 1) := by decide +kernel
theorem dX5_looks_154 : decode cX5_looks 154 = .ok (.goto 4, 3) := by decide +kernel
theorem dX5_looks_157 : decode cX5_looks 157 = .ok (.iconst 0, 1) := by decide +kernel
theorem dX5_looks_158 : decode cX5_looks 158 = .ok (.iadd, 1) := by decide +kernel
theorem dX5_looks_159 : decode cX5_looks 159 = .ok (.if_icmp .ge 28, 3) := by decide +kernel
theorem dX5_looks_162 : decode cX5_looks 162 = .ok (.aload_n 0, 1) := by decide +kernel
theorem dX5_looks_163 : decode cX5_looks 163 = .ok (.bipush 16, 2) := by decide +kernel
theorem dX5_looks_165 : decode cX5_looks 165 = .ok (.aload_n 0, 1) := by decide +kernel
theorem dX5_looks_166 : decode cX5_looks 166 = .ok (.iload 4, 2) := by decide +kernel
theorem dX5_looks_168 : decode cX5_looks 168 = .ok (.iconst 1, 1) := by decide +kernel
theorem dX5_looks_169 : decode cX5_looks 169 = .ok (.invokevirtual 101, 3) := by decide +kernel
theorem dX5_looks_172 : decode cX5_looks 172 = .ok (.imul, 1) := by decide +kernel
theorem dX5_looks_173 : decode cX5_looks 173 = .ok (.iload_n 3, 1) := by decide +kernel
theorem dX5_looks_174 : decode cX5_looks 174 = .ok (.iadd, 1) := by decide +kernel
theorem dX5_looks_175 : decode cX5_looks 175 = .ok (.iload 5, 2) := by decide +kernel
theorem dX5_looks_177 : decode cX5_looks 177 = .ok (.iadd, 1) := by decide +kernel
theorem dX5_looks_178 : decode cX5_looks 178 = .ok (.iload_n 1, 1) := by decide +kernel
theorem dX5_looks_179 : decode cX5_looks 179 = .ok (.bipush 16, 2) := by decide +kernel
theorem dX5_looks_181 : decode cX5_looks 181 = .ok (.iload 4, 2) := by decide +kernel
theorem dX5_looks_183 : decode cX5_looks 183 = .ok (.iadd, 1) := by decide +kernel
theorem dX5_looks_184 : decode cX5_looks 184 = .ok (.invokevirtual 121, 3) := by decide +kernel
theorem dX5_looks_187 : decode cX5_looks 187 = .ok (.aload_n 0, 1) := by decide +kernel
theorem dX5_looks_188 : decode cX5_looks 188 = .ok (.iload 4, 2) := by decide +kernel
theorem dX5_looks_190 : decode cX5_looks 190 = .ok (.iconst 1, 1) := by decide +kernel
theorem dX5_looks_191 : decode cX5_looks 191 = .ok (.invokevirtual 101, 3) := by decide +kernel
theorem dX5_looks_194 : decode cX5_looks 194 = .ok (.iload_n 2, 1) := by decide +kernel
theorem dX5_looks_195 : decode cX5_looks 195 = .ok (.if_icmp .ne 52, 3) := by decide +kernel
theorem dX5_looks_198 : decode cX5_looks 198 = .ok (.iload_n 3, 1) := by decide +kernel
theorem dX5_looks_199 : decode cX5_looks 199 = .ok (.iload 5, 2) := by decide +kernel
theorem dX5_looks_201 : decode cX5_looks 201 = .ok (.if_icmp .lt 46, 3) := by decide +kernel
theorem dX5_looks_204 : decode cX5_looks 204 = .ok (.aload_n 0, 1) := by decide +kernel
theorem dX5_looks_205 : decode cX5_looks 205 = .ok (.getfield 35, 3) := by decide +kernel
theorem dX5_looks_208 : decode cX5_looks 208 = .ok (.bipush 16, 2) := by decide +kernel
theorem dX5_looks_210 : decode cX5_looks 210 = .ok (.iload 4, 2) := by decide +kernel
theorem dX5_looks_212 : decode cX5_looks 212 = .ok (.imul, 1) := by decide +kernel
theorem dX5_looks_213 : decode cX5_looks 213 = .ok (.iload_n 3, 1) := by decide +kernel
theorem dX5_looks_214 : decode cX5_looks 214 = .ok (.iadd, 1) := by decide +kernel
theorem dX5_looks_215 : decode cX5_looks 215 = .ok (.iload 5, 2) := by decide +kernel
theorem dX5_looks_217 : decode cX5_looks 217 = .ok (.isub, 1) := by decide +kernel
theorem dX5_looks_218 : decode cX5_looks 218 = .ok (.iaload, 1) := by decide +kernel
theorem dX5_looks_219 : decode cX5_looks 219 = .ok (.ifCond .le 28, 3) := by decide +kernel
theorem dX5_looks_222 : decode cX5_looks 222 = .ok (.aload_n 0, 1) := by decide +kernel
theorem dX5_looks_223 : decode cX5_looks 223 = .ok (.bipush 16, 2) := by decide +kernel
theorem dX5_looks_225 : decode cX5_looks 225 = .ok (.aload_n 0, 1) := by decide +kernel
theorem dX5_looks_226 : decode cX5_looks 226 = .ok (.iload 4, 2) := by decide +kernel
theorem dX5_looks_228 : decode cX5_looks 228 = .ok (.iconst 0, 1) := by decide +kernel
theorem dX5_looks_229 : decode cX5_looks 229 = .ok (.invokevirtual 101, 3) := by decide +kernel
theorem dX5_looks_232 : decode cX5_looks 232 = .ok (.imul, 1) := by decide +kernel
theorem dX5_looks_233 : decode cX5_looks 233 = .ok (.iload_n 3, 1) := by decide +kernel
theorem dX5_looks_234 : decode cX5_looks 234 = .ok (.iadd, 1) := by decide +kernel
theorem dX5_looks_235 : decode cX5_looks 235 = .ok (.iload 5, 2) := by decide +kernel
theorem dX5_looks_237 : decode cX5_looks 237 = .ok (.isub, 1) := by decide +kernel
theorem dX5_looks_238 : decode cX5_looks 238 = .ok (.iload_n 1, 1) := by decide +kernel
theorem dX5_looks_239 : decode cX5_looks 239 = .ok (.bipush 32, 2) := by decide +kernel
theorem dX5_looks_241 : decode cX5_looks 241 = .ok (.iload 4, 2) := by decide +kernel
theorem dX5_looks_243 : decode cX5_looks 243 = .ok (.iadd, 1) := by decide +kernel
theorem dX5_looks_244 : decode cX5_looks 244 = .ok (.invokevirtual 121, 3) := by decide +kernel
theorem dX5_looks_247 : decode cX5_looks 247 = .ok (.iinc 4 1, 3) := by decide +kernel
theorem dX5_looks_250 : decode cX5_looks 250 = .ok (.goto (-182), 3) := by decide +kernel
theorem dX5_looks_253 : decode cX5_looks 253 = .ok (.return_, 1) := by decide +kernel
set_option maxHeartbeats 4000000 in
set_option maxRecDepth 100000 in
theorem c_X5_looks (l : Launch) (D : va_G) (cI cC cO : ClassId) (a : Nat → Nat) (M : Mm) (x1 : Int32) (res : Mm) (sz : Nat) (h : F_X5_looks M x1 = some res) : Met l yX5_looks (Cond.code yX5_looks cX5_looks 7 (Option.none : Option Jvm.ClassFile.FieldType) :: lw_g) ({ frames := 2, cells := 0, slots := 0, locals := 45 } : Room) (va_Pc [.ref (a 0), .int x1] (pS D cI cC cO sz (wX5 a cI cC cO M))) (QV D cI cC cO (va_A (wX5 a cI cC cO M) sz) (wX5 a cI cC cO res)) 0 0 (va_A (wX5 a cI cC cO M) sz) := by
  refine Met.ofW (cc := cX5_looks) (maxL := 7) (ret := (Option.none : Option Jvm.ClassFile.FieldType)) (by decide) rfl ?_
  intro p e s m args below meth c s₁ B hml hv
  obtain ⟨rfl, rfl, hP, hK, hD0, hN⟩ := hv
  have hx := B.exec
  have hb := B.bytes
  have hr := B.returns
  have ht : ∀ w ∈ lw_g, w.before ([.ref (a 0), .int x1] : List Value).toArray s = true := fun w hw => atoms_spec (ws := Cond.code yX5_looks cX5_looks 7 (Option.none : Option Jvm.ClassFile.FieldType) :: lw_g) B.pre w (List.mem_cons_of_mem _ hw)
  have hown : s.vm.findClass RX5 = some m.cls := findClass_of_methodNamed B.named
  have hlocks := B.notSynchronized
  have hD := hD0.self (sz := s.heap.size)
  generalize hAe : va_A (wX5 a cI cC cO M) s.heap.size = A at hD ⊢
  have hA : ∀ q : Nat, s.heap.size ≤ q → A q := fun q hq => by rw [← hAe]; exact Or.inr hq
  have hS : va_S A s.heap s.heap [] := va_S.rf
  have hl := lv_entry ([.ref (a 0), .int x1]) (n := 7) (Nat.le_of_ble_eq_true rfl)
  rw [lg_entry_eq]
  generalize (lg_sl ([.ref (a 0), .int x1]) ++ List.replicate (7 - (lg_sl ([.ref (a 0), .int x1])).length) Slot.unset).toArray = ls at hl ⊢
  have hl : lv_has ls 7 [(0, .ref (a 0)), (1, .int x1)] := hl
  have w68 : ∀ (n68 : Nat) (M : Mm) (y1 y2 y3 y4 : Int32) (H : Heap) (locs : List Loc) (ls : Array Slot), F_X5_looks_68 n68 M y1 y2 y3 y4 = some res → va_P D classes (wX5 a cI cC cO M) H → va_D A (wX5 a cI cC cO M) → va_S A s.heap H locs → lv_has ls 7 [(0, .ref (a 0)), (1, .int y1), (2, .int y2), (3, .int y3), (4, .int y4)] → W p l e ({ frames := 2, cells := 0, slots := 0, locals := 45 } : Room) s m ([.ref (a 0), .int x1] : List Value).toArray below meth c H locs 0 0 (MQ below (QV D cI cC cO A (wX5 a cI cC cO res)) ([.ref (a 0), .int x1] : List Value).toArray s 0 0 A) (F0 m 68 ls []) := by
    intro n68
    induction n68 with
    | zero => intro M y1 y2 y3 y4 H locs ls h hP hD hS hl; exact absurd (show (none : Option (Mm)) = some res from h) (by simp)
    | succ n68 ih68 =>
      have w187 : ∀ (M : Mm) (y1 y2 y3 y4 y5 : Int32) (H : Heap) (locs : List Loc) (ls : Array Slot), F_X5_looks_187 (F_X5_looks_68 n68) M y1 y2 y3 y4 y5 = some res → va_P D classes (wX5 a cI cC cO M) H → va_D A (wX5 a cI cC cO M) → va_S A s.heap H locs → lv_has ls 7 [(0, .ref (a 0)), (1, .int y1), (2, .int y2), (3, .int y3), (4, .int y4), (5, .int y5)] → W p l e ({ frames := 2, cells := 0, slots := 0, locals := 45 } : Room) s m ([.ref (a 0), .int x1] : List Value).toArray below meth c H locs 0 0 (MQ below (QV D cI cC cO A (wX5 a cI cC cO res)) ([.ref (a 0), .int x1] : List Value).toArray s 0 0 A) (F0 m 187 ls []) := by
        intro M y1 y2 y3 y4 y5 H locs ls h hP hD hS hl
        unfold F_X5_looks_187 at h
        refine lv_aload_n hx hb dX5_looks_187 rfl (lv_at hl 0 rfl) ?_
        refine lv_iload hx hb dX5_looks_188 (lv_at hl 4 rfl) ?_
        refine lv_iconst (v := (1 : Int32)) hx hb dX5_looks_190 (by decide) ?_
        obtain ⟨u1, e2, h⟩ := b1_ok h
        refine cl_Vi (ws' := (wX5 a cI cC cO M)) ⟨hx, hb, hml, hown, ht⟩ (c_X5_pi l D cI cC cO a M y4 (1 : Int32) _ _ e2) (cwv 2 ht wd_678 wd_6 wd_675 wd_677 ws_28 (by decide +kernel) rfl rfl ⟨Nat.le_of_ble_eq_true rfl, Nat.le_of_ble_eq_true rfl⟩) 5 0 rfl rfl rfl hK hP hD hS hA hN [0, 1, 2, 3, 4, 5, 6, 7, 8, 9, 10, 11, 12] [] [0, 1, 2, 3, 4, 5, 6, 7, 8, 9, 10, 11, 12] (by decide) rfl rfl (by decide) (by decide) rfl (by decide) rfl hl.1 rfl (Nat.le_of_ble_eq_true rfl) dX5_looks_191 ⟨Nat.le_of_ble_eq_true rfl, Nat.le_of_ble_eq_true rfl⟩ (fun H locs hP hD hS => ?_)
        refine lv_iload_n hx hb dX5_looks_194 rfl (lv_at hl 2 rfl) ?_
        refine lv_icmp_ne (tgt := 247) hx hb dX5_looks_195 (by decide) (fun c3 => ?_) (fun c3 => ?_)
        · replace h := fn c3 h
          refine lv_iinc (v := (y4 + 1)) (lv' := [(4, .int (y4 + 1)), (0, .ref (a 0)), (1, .int y1), (2, .int y2), (3, .int y3), (5, .int y5)]) hx hb dX5_looks_247 hl (k := 4) rfl rfl (by decide) rfl (fun ls hl => ?_)
          refine lv_goto (tgt := 68) hx hb dX5_looks_250 (by decide) ?_
          exact ih68 M y1 y2 y3 (y4 + 1) _ _ ls h hP hD hS (lv_sub hl [1, 2, 3, 4, 0] rfl)
        · replace h := fp c3 h
          refine lv_iload_n hx hb dX5_looks_198 rfl (lv_at hl 3 rfl) ?_
          refine lv_iload hx hb dX5_looks_199 (lv_at hl 5 rfl) ?_
          refine lv_icmp_lt (tgt := 247) hx hb dX5_looks_201 (by decide) (fun c4 => ?_) (fun c4 => ?_)
          · replace h := fp c4 h
            refine lv_iinc (v := (y4 + 1)) (lv' := [(4, .int (y4 + 1)), (0, .ref (a 0)), (1, .int y1), (2, .int y2), (3, .int y3), (5, .int y5)]) hx hb dX5_looks_247 hl (k := 4) rfl rfl (by decide) rfl (fun ls hl => ?_)
            refine lv_goto (tgt := 68) hx hb dX5_looks_250 (by decide) ?_
            exact ih68 M y1 y2 y3 (y4 + 1) _ _ ls h hP hD hS (lv_sub hl [1, 2, 3, 4, 0] rfl)
          · replace h := fn c4 h
            refine lv_aload_n hx hb dX5_looks_204 rfl (lv_at hl 0 rfl) ?_
            refine va_get (D := D) (ci := 5) (v := .ref (a 9)) (C := RX5) (T := TX5) (N := 23) hx hb ht i_X5 hown hK hP 0 rfl rfl 13 (by decide) (ht _ wd_549) (fun _ h9 => h9) rfl dX5_looks_205 ?_
            refine lv_bipush (v := (16 : Int32)) hx hb dX5_looks_208 (by decide) ?_
            refine lv_iload hx hb dX5_looks_210 (lv_at hl 4 rfl) ?_
            refine lv_imul hx hb dX5_looks_212 ?_
            refine lv_iload_n hx hb dX5_looks_213 rfl (lv_at hl 3 rfl) ?_
            refine lv_iadd hx hb dX5_looks_214 ?_
            refine lv_iload hx hb dX5_looks_215 (lv_at hl 5 rfl) ?_
            refine lv_isub hx hb dX5_looks_217 ?_
            obtain ⟨i5, h⟩ := ck_ok h
            refine va_iald hx hb hK hP 9 0 rfl rfl i5 dX5_looks_218 ?_
            refine lv_if_le (tgt := 247) hx hb dX5_looks_219 (by decide) (fun c6 => ?_) (fun c6 => ?_)
            · replace h := fp c6 h
              refine lv_iinc (v := (y4 + 1)) (lv' := [(4, .int (y4 + 1)), (0, .ref (a 0)), (1, .int y1), (2, .int y2), (3, .int y3), (5, .int y5)]) hx hb dX5_looks_247 hl (k := 4) rfl rfl (by decide) rfl (fun ls hl => ?_)
              refine lv_goto (tgt := 68) hx hb dX5_looks_250 (by decide) ?_
              exact ih68 M y1 y2 y3 (y4 + 1) _ _ ls h hP hD hS (lv_sub hl [1, 2, 3, 4, 0] rfl)
            · replace h := fn c6 h
              refine lv_aload_n hx hb dX5_looks_222 rfl (lv_at hl 0 rfl) ?_
              refine lv_bipush (v := (16 : Int32)) hx hb dX5_looks_223 (by decide) ?_
              refine lv_aload_n hx hb dX5_looks_225 rfl (lv_at hl 0 rfl) ?_
              refine lv_iload hx hb dX5_looks_226 (lv_at hl 4 rfl) ?_
              refine lv_iconst (v := (0 : Int32)) hx hb dX5_looks_228 (by decide) ?_
              obtain ⟨u7, e8, h⟩ := b1_ok h
              refine cl_Vi (ws' := (wX5 a cI cC cO M)) ⟨hx, hb, hml, hown, ht⟩ (c_X5_pi l D cI cC cO a M y4 (0 : Int32) _ _ e8) (cwv 2 ht wd_678 wd_6 wd_675 wd_677 ws_28 (by decide +kernel) rfl rfl ⟨Nat.le_of_ble_eq_true rfl, Nat.le_of_ble_eq_true rfl⟩) 5 0 rfl rfl rfl hK hP hD hS hA hN [0, 1, 2, 3, 4, 5, 6, 7, 8, 9, 10, 11, 12] [] [0, 1, 2, 3, 4, 5, 6, 7, 8, 9, 10, 11, 12] (by decide) rfl rfl (by decide) (by decide) rfl (by decide) rfl hl.1 rfl (Nat.le_of_ble_eq_true rfl) dX5_looks_229 ⟨Nat.le_of_ble_eq_true rfl, Nat.le_of_ble_eq_true rfl⟩ (fun H locs hP hD hS => ?_)
              refine lv_imul hx hb dX5_looks_232 ?_
              refine lv_iload_n hx hb dX5_looks_233 rfl (lv_at hl 3 rfl) ?_
              refine lv_iadd hx hb dX5_looks_234 ?_
              refine lv_iload hx hb dX5_looks_235 (lv_at hl 5 rfl) ?_
              refine lv_isub hx hb dX5_looks_237 ?_
              refine lv_iload_n hx hb dX5_looks_238 rfl (lv_at hl 1 rfl) ?_
              refine lv_bipush (v := (32 : Int32)) hx hb dX5_looks_239 (by decide) ?_
              refine lv_iload hx hb dX5_looks_241 (lv_at hl 4 rfl) ?_
              refine lv_iadd hx hb dX5_looks_243 ?_
              obtain ⟨M9, e10, h⟩ := b1_ok h
              refine cl_Vv (ws' := (wX5 a cI cC cO M9)) ⟨hx, hb, hml, hown, ht⟩ (c_X5_reaches l D cI cC cO a M ((((16 : Int32) * u7) + y3) - y5) y1 ((32 : Int32) + y4) _ _ e10) (cwv 3 ht wd_712 wd_6 wd_709 wd_711 ws_34 (by decide +kernel) rfl rfl ⟨Nat.le_of_ble_eq_true rfl, Nat.le_of_ble_eq_true rfl⟩) 5 0 rfl rfl rfl hK hP hD hS hA hN [0, 1, 2, 3, 4, 5, 6, 7, 8, 9, 10, 11, 12] [] [0, 1, 2, 3, 4, 5, 6, 7, 8, 9, 10, 11, 12] (by decide) rfl rfl (by decide) (by decide) rfl (by decide) rfl hl.1 rfl (Nat.le_of_ble_eq_true rfl) dX5_looks_244 ⟨Nat.le_of_ble_eq_true rfl, Nat.le_of_ble_eq_true rfl⟩ (fun H locs hP hD hS => ?_)
              refine lv_iinc (v := (y4 + 1)) (lv' := [(4, .int (y4 + 1)), (0, .ref (a 0)), (1, .int y1), (2, .int y2), (3, .int y3), (5, .int y5)]) hx hb dX5_looks_247 hl (k := 4) rfl rfl (by decide) rfl (fun ls hl => ?_)
              refine lv_goto (tgt := 68) hx hb dX5_looks_250 (by decide) ?_
              exact ih68 M9 y1 y2 y3 (y4 + 1) _ _ ls h hP hD hS (lv_sub hl [1, 2, 3, 4, 0] rfl)
      have w158 : ∀ (M : Mm) (y1 y2 y3 y4 y5 s0 s1 s2 : Int32) (H : Heap) (locs : List Loc) (ls : Array Slot), F_X5_looks_158 (F_X5_looks_68 n68) M y1 y2 y3 y4 y5 s0 s1 s2 = some res → va_P D classes (wX5 a cI cC cO M) H → va_D A (wX5 a cI cC cO M) → va_S A s.heap H locs → lv_has ls 7 [(0, .ref (a 0)), (1, .int y1), (2, .int y2), (3, .int y3), (4, .int y4), (5, .int y5)] → W p l e ({ frames := 2, cells := 0, slots := 0, locals := 45 } : Room) s m ([.ref (a 0), .int x1] : List Value).toArray below meth c H locs 0 0 (MQ below (QV D cI cC cO A (wX5 a cI cC cO res)) ([.ref (a 0), .int x1] : List Value).toArray s 0 0 A) (F0 m 158 ls [.int s0, .int s1, .int s2]) := by
        intro M y1 y2 y3 y4 y5 s0 s1 s2 H locs ls h hP hD hS hl
        unfold F_X5_looks_158 at h
        refine lv_iadd hx hb dX5_looks_158 ?_
        refine lv_icmp_ge (tgt := 187) hx hb dX5_looks_159 (by decide) (fun c1 => ?_) (fun c1 => ?_)
        · replace h := fp c1 h
          exact w187 M y1 y2 y3 y4 y5 _ _ ls h hP hD hS (lv_sub hl [0, 1, 2, 3, 4, 5] rfl)
        · replace h := fn c1 h
          refine lv_aload_n hx hb dX5_looks_162 rfl (lv_at hl 0 rfl) ?_
          refine lv_bipush (v := (16 : Int32)) hx hb dX5_looks_163 (by decide) ?_
          refine lv_aload_n hx hb dX5_looks_165 rfl (lv_at hl 0 rfl) ?_
          refine lv_iload hx hb dX5_looks_166 (lv_at hl 4 rfl) ?_
          refine lv_iconst (v := (1 : Int32)) hx hb dX5_looks_168 (by decide) ?_
          obtain ⟨u2, e3, h⟩ := b1_ok h
          refine cl_Vi (ws' := (wX5 a cI cC cO M)) ⟨hx, hb, hml, hown, ht⟩ (c_X5_pi l D cI cC cO a M y4 (1 : Int32) _ _ e3) (cwv 2 ht wd_678 wd_6 wd_675 wd_677 ws_28 (by decide +kernel) rfl rfl ⟨Nat.le_of_ble_eq_true rfl, Nat.le_of_ble_eq_true rfl⟩) 5 0 rfl rfl rfl hK hP hD hS hA hN [0, 1, 2, 3, 4, 5, 6, 7, 8, 9, 10, 11, 12] [] [0, 1, 2, 3, 4, 5, 6, 7, 8, 9, 10, 11, 12] (by decide) rfl rfl (by decide) (by decide) rfl (by decide) rfl hl.1 rfl (Nat.le_of_ble_eq_true rfl) dX5_looks_169 ⟨Nat.le_of_ble_eq_true rfl, Nat.le_of_ble_eq_true rfl⟩ (fun H locs hP hD hS => ?_)
          refine lv_imul hx hb dX5_looks_172 ?_
          refine lv_iload_n hx hb dX5_looks_173 rfl (lv_at hl 3 rfl) ?_
          refine lv_iadd hx hb dX5_looks_174 ?_
          refine lv_iload hx hb dX5_looks_175 (lv_at hl 5 rfl) ?_
          refine lv_iadd hx hb dX5_looks_177 ?_
          refine lv_iload_n hx hb dX5_looks_178 rfl (lv_at hl 1 rfl) ?_
          refine lv_bipush (v := (16 : Int32)) hx hb dX5_looks_179 (by decide) ?_
          refine lv_iload hx hb dX5_looks_181 (lv_at hl 4 rfl) ?_
          refine lv_iadd hx hb dX5_looks_183 ?_
          obtain ⟨M4, e5, h⟩ := b1_ok h
          refine cl_Vv (ws' := (wX5 a cI cC cO M4)) ⟨hx, hb, hml, hown, ht⟩ (c_X5_reaches l D cI cC cO a M ((((16 : Int32) * u2) + y3) + y5) y1 ((16 : Int32) + y4) _ _ e5) (cwv 3 ht wd_712 wd_6 wd_709 wd_711 ws_34 (by decide +kernel) rfl rfl ⟨Nat.le_of_ble_eq_true rfl, Nat.le_of_ble_eq_true rfl⟩) 5 0 rfl rfl rfl hK hP hD hS hA hN [0, 1, 2, 3, 4, 5, 6, 7, 8, 9, 10, 11, 12] [] [0, 1, 2, 3, 4, 5, 6, 7, 8, 9, 10, 11, 12] (by decide) rfl rfl (by decide) (by decide) rfl (by decide) rfl hl.1 rfl (Nat.le_of_ble_eq_true rfl) dX5_looks_184 ⟨Nat.le_of_ble_eq_true rfl, Nat.le_of_ble_eq_true rfl⟩ (fun H locs hP hD hS => ?_)
          exact w187 M4 y1 y2 y3 y4 y5 _ _ ls h hP hD hS (lv_sub hl [0, 1, 2, 3, 4, 5] rfl)
      have w118 : ∀ (M : Mm) (y1 y2 y3 y4 y5 s0 : Int32) (H : Heap) (locs : List Loc) (ls : Array Slot), F_X5_looks_118 (F_X5_looks_68 n68) M y1 y2 y3 y4 y5 s0 = some res → va_P D classes (wX5 a cI cC cO M) H → va_D A (wX5 a cI cC cO M) → va_S A s.heap H locs → lv_has ls 7 [(0, .ref (a 0)), (1, .int y1), (2, .int y2), (3, .int y3), (4, .int y4), (5, .int y5)] → W p l e ({ frames := 2, cells := 0, slots := 0, locals := 45 } : Room) s m ([.ref (a 0), .int x1] : List Value).toArray below meth c H locs 0 0 (MQ below (QV D cI cC cO A (wX5 a cI cC cO res)) ([.ref (a 0), .int x1] : List Value).toArray s 0 0 A) (F0 m 118 ls [.int s0]) := by
        intro M y1 y2 y3 y4 y5 s0 H locs ls h hP hD hS hl
        unfold F_X5_looks_118 at h
        refine lv_istore (lv' := [(6, .int s0), (0, .ref (a 0)), (1, .int y1), (2, .int y2), (3, .int y3), (4, .int y4), (5, .int y5)]) hx hb dX5_looks_118 hl (by decide) rfl (fun ls hl => ?_)
        refine lv_iload hx hb dX5_looks_120 (lv_at hl 0 rfl) ?_
        refine lv_if_eq (tgt := 187) hx hb dX5_looks_122 (by decide) (fun c1 => ?_) (fun c1 => ?_)
        · replace h := fp c1 h
          exact w187 M y1 y2 y3 y4 y5 _ _ ls h hP hD hS (lv_sub hl [1, 2, 3, 4, 5, 6] rfl)
        · replace h := fn c1 h
          refine lv_aload_n hx hb dX5_looks_125 rfl (lv_at hl 1 rfl) ?_
          refine va_get (D := D) (ci := 5) (v := .ref (a 9)) (C := RX5) (T := TX5) (N := 23) hx hb ht i_X5 hown hK hP 0 rfl rfl 13 (by decide) (ht _ wd_549) (fun _ h9 => h9) rfl dX5_looks_126 ?_
          refine lv_bipush (v := (16 : Int32)) hx hb dX5_looks_129 (by decide) ?_
          refine lv_iload hx hb dX5_looks_131 (lv_at hl 5 rfl) ?_
          refine lv_imul hx hb dX5_looks_133 ?_
          refine lv_iload_n hx hb dX5_looks_134 rfl (lv_at hl 4 rfl) ?_
          refine lv_iadd hx hb dX5_looks_135 ?_
          obtain ⟨i2, h⟩ := ck_ok h
          refine va_iald hx hb hK hP 9 0 rfl rfl i2 dX5_looks_136 ?_
          refine lv_aload_n hx hb dX5_looks_137 rfl (lv_at hl 1 rfl) ?_
          refine lv_iload hx hb dX5_looks_138 (lv_at hl 5 rfl) ?_
          refine lv_iconst (v := (3 : Int32)) hx hb dX5_looks_140 (by decide) ?_
          obtain ⟨u3, e4, h⟩ := b1_ok h
          refine cl_Vi (ws' := (wX5 a cI cC cO M)) ⟨hx, hb, hml, hown, ht⟩ (c_X5_pi l D cI cC cO a M y4 (3 : Int32) _ _ e4) (cwv 2 ht wd_678 wd_6 wd_675 wd_677 ws_28 (by decide +kernel) rfl rfl ⟨Nat.le_of_ble_eq_true rfl, Nat.le_of_ble_eq_true rfl⟩) 5 0 rfl rfl rfl hK hP hD hS hA hN [0, 1, 2, 3, 4, 5, 6, 7, 8, 9, 10, 11, 12] [] [0, 1, 2, 3, 4, 5, 6, 7, 8, 9, 10, 11, 12] (by decide) rfl rfl (by decide) (by decide) rfl (by decide) rfl hl.1 rfl (Nat.le_of_ble_eq_true rfl) dX5_looks_141 ⟨Nat.le_of_ble_eq_true rfl, Nat.le_of_ble_eq_true rfl⟩ (fun H locs hP hD hS => ?_)
          refine lv_iload hx hb dX5_looks_144 (lv_at hl 5 rfl) ?_
          refine lv_aload_n hx hb dX5_looks_146 rfl (lv_at hl 1 rfl) ?_
          refine va_get (D := D) (ci := 5) (v := .int (M 12 8)) (C := RX5) (T := TX5) (N := 23) hx hb ht i_X5 hown hK hP 0 rfl rfl 20 (by decide) (ht _ wd_556) (fun _ h9 => h9) rfl dX5_looks_147 ?_
          refine lv_icmp_ne (tgt := 157) hx hb dX5_looks_150 (by decide) (fun c5 => ?_) (fun c5 => ?_)
          · replace h := fn c5 h
            refine lv_iconst (v := (0 : Int32)) hx hb dX5_looks_157 (by decide) ?_
            exact w158 M y1 y2 y3 y4 y5 (0 : Int32) u3 (M 8 (((16 : Int32) * y4) + y3).toNatClampNeg) _ _ ls h hP hD hS (lv_sub hl [1, 2, 3, 4, 5, 6] rfl)
          · replace h := fp c5 h
            refine lv_iconst (v := (1 : Int32)) hx hb dX5_looks_153 (by decide) ?_
            refine lv_goto (tgt := 158) hx hb dX5_looks_154 (by decide) ?_
            exact w158 M y1 y2 y3 y4 y5 (1 : Int32) u3 (M 8 (((16 : Int32) * y4) + y3).toNatClampNeg) _ _ ls h hP hD hS (lv_sub hl [1, 2, 3, 4, 5, 6] rfl)
      have w117 : ∀ (M : Mm) (y1 y2 y3 y4 y5 : Int32) (H : Heap) (locs : List Loc) (ls : Array Slot), F_X5_looks_117 (F_X5_looks_68 n68) M y1 y2 y3 y4 y5 = some res → va_P D classes (wX5 a cI cC cO M) H → va_D A (wX5 a cI cC cO M) → va_S A s.heap H locs → lv_has ls 7 [(0, .ref (a 0)), (1, .int y1), (2, .int y2), (3, .int y3), (4, .int y4), (5, .int y5)] → W p l e ({ frames := 2, cells := 0, slots := 0, locals := 45 } : Room) s m ([.ref (a 0), .int x1] : List Value).toArray below meth c H locs 0 0 (MQ below (QV D cI cC cO A (wX5 a cI cC cO res)) ([.ref (a 0), .int x1] : List Value).toArray s 0 0 A) (F0 m 117 ls []) := by
        intro M y1 y2 y3 y4 y5 H locs ls h hP hD hS hl
        unfold F_X5_looks_117 at h
        refine lv_iconst (v := (0 : Int32)) hx hb dX5_looks_117 (by decide) ?_
        exact w118 M y1 y2 y3 y4 y5 (0 : Int32) _ _ ls h hP hD hS (lv_sub hl [0, 1, 2, 3, 4, 5] rfl)
      intro M y1 y2 y3 y4 H locs ls h hP hD hS hl
      have h : F_X5_looksB_68 (F_X5_looks_68 n68) M y1 y2 y3 y4 = some res := h
      unfold F_X5_looksB_68 at h
      refine lv_iload hx hb dX5_looks_68 (lv_at hl 4 rfl) ?_
      refine lv_aload_n hx hb dX5_looks_70 rfl (lv_at hl 0 rfl) ?_
      refine va_get (D := D) (ci := 5) (v := .ref (a 1)) (C := RX5) (T := TX5) (N := 23) hx hb ht i_X5 hown hK hP 0 rfl rfl 0 (by decide) (ht _ wd_536) (fun _ h9 => h9) rfl dX5_looks_71 ?_
      refine lv_iconst (v := (1 : Int32)) hx hb dX5_looks_74 (by decide) ?_
      obtain ⟨i1, h⟩ := ck_ok h
      refine va_iald hx hb hK hP 1 0 rfl rfl i1 dX5_looks_75 ?_
      refine lv_icmp_ge (tgt := 253) hx hb dX5_looks_76 (by decide) (fun c2 => ?_) (fun c2 => ?_)
      · replace h := fp c2 h
        cases h
        exact rt_v hx hb hr hlocks hS hP hK hD dX5_looks_253
      · replace h := fn c2 h
        refine lv_aload_n hx hb dX5_looks_79 rfl (lv_at hl 0 rfl) ?_
        refine lv_iload hx hb dX5_looks_80 (lv_at hl 4 rfl) ?_
        refine lv_iconst (v := (2 : Int32)) hx hb dX5_looks_82 (by decide) ?_
        obtain ⟨u3, e4, h⟩ := b1_ok h
        refine cl_Vi (ws' := (wX5 a cI cC cO M)) ⟨hx, hb, hml, hown, ht⟩ (c_X5_pi l D cI cC cO a M y4 (2 : Int32) _ _ e4) (cwv 2 ht wd_678 wd_6 wd_675 wd_677 ws_28 (by decide +kernel) rfl rfl ⟨Nat.le_of_ble_eq_true rfl, Nat.le_of_ble_eq_true rfl⟩) 5 0 rfl rfl rfl hK hP hD hS hA hN [0, 1, 2, 3, 4, 5, 6, 7, 8, 9, 10, 11, 12] [] [0, 1, 2, 3, 4, 5, 6, 7, 8, 9, 10, 11, 12] (by decide) rfl rfl (by decide) (by decide) rfl (by decide) rfl hl.1 rfl (Nat.le_of_ble_eq_true rfl) dX5_looks_83 ⟨Nat.le_of_ble_eq_true rfl, Nat.le_of_ble_eq_true rfl⟩ (fun H locs hP hD hS => ?_)
        refine lv_istore (lv' := [(5, .int u3), (0, .ref (a 0)), (1, .int y1), (2, .int y2), (3, .int y3), (4, .int y4)]) hx hb dX5_looks_86 hl (by decide) rfl (fun ls hl => ?_)
        refine lv_aload_n hx hb dX5_looks_88 rfl (lv_at hl 1 rfl) ?_
        refine lv_iload hx hb dX5_looks_89 (lv_at hl 5 rfl) ?_
        refine lv_iconst (v := (0 : Int32)) hx hb dX5_looks_91 (by decide) ?_
        obtain ⟨u5, e6, h⟩ := b1_ok h
        refine cl_Vi (ws' := (wX5 a cI cC cO M)) ⟨hx, hb, hml, hown, ht⟩ (c_X5_pi l D cI cC cO a M y4 (0 : Int32) _ _ e6) (cwv 2 ht wd_678 wd_6 wd_675 wd_677 ws_28 (by decide +kernel) rfl rfl ⟨Nat.le_of_ble_eq_true rfl, Nat.le_of_ble_eq_true rfl⟩) 5 0 rfl rfl rfl hK hP hD hS hA hN [0, 1, 2, 3, 4, 5, 6, 7, 8, 9, 10, 11, 12] [] [0, 1, 2, 3, 4, 5, 6, 7, 8, 9, 10, 11, 12] (by decide) rfl rfl (by decide) (by decide) rfl (by decide) rfl hl.1 rfl (Nat.le_of_ble_eq_true rfl) dX5_looks_92 ⟨Nat.le_of_ble_eq_true rfl, Nat.le_of_ble_eq_true rfl⟩ (fun H locs hP hD hS => ?_)
        refine lv_iload_n hx hb dX5_looks_95 rfl (lv_at hl 3 rfl) ?_
        refine lv_icmp_ne (tgt := 117) hx hb dX5_looks_96 (by decide) (fun c7 => ?_) (fun c7 => ?_)
        · replace h := fn c7 h
          exact w117 M y1 y2 y3 y4 u3 _ _ ls h hP hD hS (lv_sub hl [1, 2, 3, 4, 5, 0] rfl)
        · replace h := fp c7 h
          refine lv_iload_n hx hb dX5_looks_99 rfl (lv_at hl 3 rfl) ?_
          refine lv_if_eq (tgt := 117) hx hb dX5_looks_100 (by decide) (fun c8 => ?_) (fun c8 => ?_)
          · replace h := fp c8 h
            exact w117 M y1 y2 y3 y4 u3 _ _ ls h hP hD hS (lv_sub hl [1, 2, 3, 4, 5, 0] rfl)
          · replace h := fn c8 h
            refine lv_aload_n hx hb dX5_looks_103 rfl (lv_at hl 1 rfl) ?_
            refine lv_iload hx hb dX5_looks_104 (lv_at hl 5 rfl) ?_
            refine lv_iload_n hx hb dX5_looks_106 rfl (lv_at hl 4 rfl) ?_
            obtain ⟨u9, e10, h⟩ := b1_ok h
            refine cl_Vi (ws' := (wX5 a cI cC cO M)) ⟨hx, hb, hml, hown, ht⟩ (c_X5_isOpen l D cI cC cO a M y4 y3 _ _ e10) (cwv 2 ht wd_724 wd_6 wd_721 wd_723 ws_37 (by decide +kernel) rfl rfl ⟨Nat.le_of_ble_eq_true rfl, Nat.le_of_ble_eq_true rfl⟩) 5 0 rfl rfl rfl hK hP hD hS hA hN [0, 1, 2, 3, 4, 5, 6, 7, 8, 9, 10, 11, 12] [] [0, 1, 2, 3, 4, 5, 6, 7, 8, 9, 10, 11, 12] (by decide) rfl rfl (by decide) (by decide) rfl (by decide) rfl hl.1 rfl (Nat.le_of_ble_eq_true rfl) dX5_looks_107 ⟨Nat.le_of_ble_eq_true rfl, Nat.le_of_ble_eq_true rfl⟩ (fun H locs hP hD hS => ?_)
            refine lv_if_eq (tgt := 117) hx hb dX5_looks_110 (by decide) (fun c11 => ?_) (fun c11 => ?_)
            · replace h := fp c11 h
              exact w117 M y1 y2 y3 y4 u3 _ _ ls h hP hD hS (lv_sub hl [1, 2, 3, 4, 5, 0] rfl)
            · replace h := fn c11 h
              refine lv_iconst (v := (1 : Int32)) hx hb dX5_looks_113 (by decide) ?_
              refine lv_goto (tgt := 118) hx hb dX5_looks_114 (by decide) ?_
              exact w118 M y1 y2 y3 y4 u3 (1 : Int32) _ _ ls h hP hD hS (lv_sub hl [1, 2, 3, 4, 5, 0] rfl)
  have w41 : ∀ (M : Mm) (y1 y2 y3 : Int32) (H : Heap) (locs : List Loc) (ls : Array Slot), F_X5_looks_41 M y1 y2 y3 = some res → va_P D classes (wX5 a cI cC cO M) H → va_D A (wX5 a cI cC cO M) → va_S A s.heap H locs → lv_has ls 7 [(0, .ref (a 0)), (1, .int y1), (2, .int y2), (3, .int y3)] → W p l e ({ frames := 2, cells := 0, slots := 0, locals := 45 } : Room) s m ([.ref (a 0), .int x1] : List Value).toArray below meth c H locs 0 0 (MQ below (QV D cI cC cO A (wX5 a cI cC cO res)) ([.ref (a 0), .int x1] : List Value).toArray s 0 0 A) (F0 m 41 ls []) := by
    intro M y1 y2 y3 H locs ls h hP hD hS hl
    unfold F_X5_looks_41 at h
    refine lv_iload_n hx hb dX5_looks_41 rfl (lv_at hl 3 rfl) ?_
    refine lv_if_le (tgt := 65) hx hb dX5_looks_42 (by decide) (fun c1 => ?_) (fun c1 => ?_)
    · replace h := fp c1 h
      refine lv_iconst (v := (0 : Int32)) hx hb dX5_looks_65 (by decide) ?_
      refine lv_istore (lv' := [(4, .int (0 : Int32)), (0, .ref (a 0)), (1, .int y1), (2, .int y2), (3, .int y3)]) hx hb dX5_looks_66 hl (by decide) rfl (fun ls hl => ?_)
      exact w68 FU M y1 y2 y3 (0 : Int32) _ _ ls h hP hD hS (lv_sub hl [1, 2, 3, 4, 0] rfl)
    · replace h := fn c1 h
      refine lv_aload_n hx hb dX5_looks_45 rfl (lv_at hl 0 rfl) ?_
      refine va_get (D := D) (ci := 5) (v := .ref (a 8)) (C := RX5) (T := TX5) (N := 23) hx hb ht i_X5 hown hK hP 0 rfl rfl 12 (by decide) (ht _ wd_548) (fun _ h9 => h9) rfl dX5_looks_46 ?_
      refine lv_iload_n hx hb dX5_looks_49 rfl (lv_at hl 1 rfl) ?_
      refine lv_iconst (v := (1 : Int32)) hx hb dX5_looks_50 (by decide) ?_
      refine lv_isub hx hb dX5_looks_51 ?_
      obtain ⟨i2, h⟩ := ck_ok h
      refine va_iald hx hb hK hP 8 0 rfl rfl i2 dX5_looks_52 ?_
      refine lv_if_le (tgt := 65) hx hb dX5_looks_53 (by decide) (fun c3 => ?_) (fun c3 => ?_)
      · replace h := fp c3 h
        refine lv_iconst (v := (0 : Int32)) hx hb dX5_looks_65 (by decide) ?_
        refine lv_istore (lv' := [(4, .int (0 : Int32)), (0, .ref (a 0)), (1, .int y1), (2, .int y2), (3, .int y3)]) hx hb dX5_looks_66 hl (by decide) rfl (fun ls hl => ?_)
        exact w68 FU M y1 y2 y3 (0 : Int32) _ _ ls h hP hD hS (lv_sub hl [1, 2, 3, 4, 0] rfl)
      · replace h := fn c3 h
        refine lv_aload_n hx hb dX5_looks_56 rfl (lv_at hl 0 rfl) ?_
        refine lv_iload_n hx hb dX5_looks_57 rfl (lv_at hl 1 rfl) ?_
        refine lv_iconst (v := (1 : Int32)) hx hb dX5_looks_58 (by decide) ?_
        refine lv_isub hx hb dX5_looks_59 ?_
        refine lv_iload_n hx hb dX5_looks_60 rfl (lv_at hl 1 rfl) ?_
        refine lv_iconst (v := (2 : Int32)) hx hb dX5_looks_61 (by decide) ?_
        obtain ⟨M4, e5, h⟩ := b1_ok h
        refine cl_Vv (ws' := (wX5 a cI cC cO M4)) ⟨hx, hb, hml, hown, ht⟩ (c_X5_reaches l D cI cC cO a M (y1 - (1 : Int32)) y1 (2 : Int32) _ _ e5) (cwv 3 ht wd_712 wd_6 wd_709 wd_711 ws_34 (by decide +kernel) rfl rfl ⟨Nat.le_of_ble_eq_true rfl, Nat.le_of_ble_eq_true rfl⟩) 5 0 rfl rfl rfl hK hP hD hS hA hN [0, 1, 2, 3, 4, 5, 6, 7, 8, 9, 10, 11, 12] [] [0, 1, 2, 3, 4, 5, 6, 7, 8, 9, 10, 11, 12] (by decide) rfl rfl (by decide) (by decide) rfl (by decide) rfl hl.1 rfl (Nat.le_of_ble_eq_true rfl) dX5_looks_62 ⟨Nat.le_of_ble_eq_true rfl, Nat.le_of_ble_eq_true rfl⟩ (fun H locs hP hD hS => ?_)
        refine lv_iconst (v := (0 : Int32)) hx hb dX5_looks_65 (by decide) ?_
        refine lv_istore (lv' := [(4, .int (0 : Int32)), (0, .ref (a 0)), (1, .int y1), (2, .int y2), (3, .int y3)]) hx hb dX5_looks_66 hl (by decide) rfl (fun ls hl => ?_)
        exact w68 FU M4 y1 y2 y3 (0 : Int32) _ _ ls h hP hD hS (lv_sub hl [1, 2, 3, 4, 0] rfl)
  unfold F_X5_looks at h
  refine lv_iload_n hx hb dX5_looks_0 rfl (lv_at hl 1 rfl) ?_
  refine lv_bipush (v := (16 : Int32)) hx hb dX5_looks_1 (by decide) ?_
  refine lv_idiv hx hb dX5_looks_3 (by decide) ?_
  refine lv_istore_n (lv' := [(2, .int (x1 / (16 : Int32))), (0, .ref (a 0)), (1, .int x1)]) hx hb dX5_looks_4 rfl hl (by decide) rfl (fun ls hl => ?_)
  refine lv_iload_n hx hb dX5_looks_5 rfl (lv_at hl 2 rfl) ?_
  refine lv_bipush (v := (16 : Int32)) hx hb dX5_looks_6 (by decide) ?_
  refine lv_irem hx hb dX5_looks_8 (by decide) ?_
  refine lv_istore_n (lv' := [(3, .int (x1 - x1 / (16 : Int32) * (16 : Int32))), (2, .int (x1 / (16 : Int32))), (0, .ref (a 0)), (1, .int x1)]) hx hb dX5_looks_9 rfl hl (by decide) rfl (fun ls hl => ?_)
  refine lv_iload_n hx hb dX5_looks_10 rfl (lv_at hl 0 rfl) ?_
  refine lv_aload_n hx hb dX5_looks_11 rfl (lv_at hl 2 rfl) ?_
  refine va_get (D := D) (ci := 5) (v := .int (M 12 5)) (C := RX5) (T := TX5) (N := 23) hx hb ht i_X5 hown hK hP 0 rfl rfl 17 (by decide) (ht _ wd_553) (fun _ h9 => h9) rfl dX5_looks_12 ?_
  refine lv_icmp_ge (tgt := 41) hx hb dX5_looks_15 (by decide) (fun c1 => ?_) (fun c1 => ?_)
  · replace h := fp c1 h
    exact w41 M x1 (x1 / (16 : Int32)) (x1 - x1 / (16 : Int32) * (16 : Int32)) _ _ ls h hP hD hS (lv_sub hl [2, 3, 1, 0] rfl)
  · replace h := fn c1 h
    refine lv_aload_n hx hb dX5_looks_18 rfl (lv_at hl 2 rfl) ?_
    refine va_get (D := D) (ci := 5) (v := .ref (a 8)) (C := RX5) (T := TX5) (N := 23) hx hb ht i_X5 hown hK hP 0 rfl rfl 12 (by decide) (ht _ wd_548) (fun _ h9 => h9) rfl dX5_looks_19 ?_
    refine lv_iload_n hx hb dX5_looks_22 rfl (lv_at hl 3 rfl) ?_
    obtain ⟨i2, h⟩ := ck_ok h
    refine va_iald hx hb hK hP 8 0 rfl rfl i2 dX5_looks_23 ?_
    refine lv_aload_n hx hb dX5_looks_24 rfl (lv_at hl 2 rfl) ?_
    refine lv_iload_n hx hb dX5_looks_25 rfl (lv_at hl 1 rfl) ?_
    obtain ⟨u3, e4, h⟩ := b1_ok h
    refine cl_Vi (ws' := (wX5 a cI cC cO M)) ⟨hx, hb, hml, hown, ht⟩ (c_X5_roomOf l D cI cC cO a M (x1 / (16 : Int32)) _ _ e4) (cwv 1 ht wd_720 wd_6 wd_717 wd_719 ws_36 (by decide +kernel) rfl rfl ⟨Nat.le_of_ble_eq_true rfl, Nat.le_of_ble_eq_true rfl⟩) 5 0 rfl rfl rfl hK hP hD hS hA hN [0, 1, 2, 3, 4, 5, 6, 7, 8, 9, 10, 11, 12] [] [0, 1, 2, 3, 4, 5, 6, 7, 8, 9, 10, 11, 12] (by decide) rfl rfl (by decide) (by decide) rfl (by decide) rfl hl.1 rfl (Nat.le_of_ble_eq_true rfl) dX5_looks_26 ⟨Nat.le_of_ble_eq_true rfl, Nat.le_of_ble_eq_true rfl⟩ (fun H locs hP hD hS => ?_)
    refine lv_icmp_ge (tgt := 41) hx hb dX5_looks_29 (by decide) (fun c5 => ?_) (fun c5 => ?_)
    · replace h := fp c5 h
      exact w41 M x1 (x1 / (16 : Int32)) (x1 - x1 / (16 : Int32) * (16 : Int32)) _ _ ls h hP hD hS (lv_sub hl [2, 3, 1, 0] rfl)
    · replace h := fn c5 h
      refine lv_aload_n hx hb dX5_looks_32 rfl (lv_at hl 2 rfl) ?_
      refine lv_iload_n hx hb dX5_looks_33 rfl (lv_at hl 3 rfl) ?_
      refine lv_iconst (v := (1 : Int32)) hx hb dX5_looks_34 (by decide) ?_
      refine lv_iadd hx hb dX5_looks_35 ?_
      refine lv_iload_n hx hb dX5_looks_36 rfl (lv_at hl 3 rfl) ?_
      refine lv_iconst (v := (1 : Int32)) hx hb dX5_looks_37 (by decide) ?_
      obtain ⟨M6, e7, h⟩ := b1_ok h
      refine cl_Vv (ws' := (wX5 a cI cC cO M6)) ⟨hx, hb, hml, hown, ht⟩ (c_X5_reaches l D cI cC cO a M (x1 + (1 : Int32)) x1 (1 : Int32) _ _ e7) (cwv 3 ht wd_712 wd_6 wd_709 wd_711 ws_34 (by decide +kernel) rfl rfl ⟨Nat.le_of_ble_eq_true rfl, Nat.le_of_ble_eq_true rfl⟩) 5 0 rfl rfl rfl hK hP hD hS hA hN [0, 1, 2, 3, 4, 5, 6, 7, 8, 9, 10, 11, 12] [] [0, 1, 2, 3, 4, 5, 6, 7, 8, 9, 10, 11, 12] (by decide) rfl rfl (by decide) (by decide) rfl (by decide) rfl hl.1 rfl (Nat.le_of_ble_eq_true rfl) dX5_looks_38 ⟨Nat.le_of_ble_eq_true rfl, Nat.le_of_ble_eq_true rfl⟩ (fun H locs hP hD hS => ?_)
      exact w41 M6 x1 (x1 / (16 : Int32)) (x1 - x1 / (16 : Int32) * (16 : Int32)) _ _ ls h hP hD hS (lv_sub hl [2, 3, 1, 0] rfl)
theorem dX5_finds_0 : decode cX5_finds 0 = .ok (.iconst 0, 1) := by decide +kernel
theorem dX5_finds_1 : decode cX5_finds 1 = .ok (.istore_n 1, 1) := by decide +kernel
theorem dX5_finds_2 : decode cX5_finds 2 = .ok (.iload_n 1, 1) := by decide +kernel
theorem dX5_finds_3 : decode cX5_finds 3 = .ok (.bipush 96, 2) := by decide +kernel
theorem dX5_finds_5 : decode cX5_finds 5 = .ok (.if_icmp .ge 16, 3) := by decide +kernel
theorem dX5_finds_8 : decode cX5_finds 8 = .ok (.aload_n 0, 1) := by decide +kernel
theorem dX5_finds_9 : decode cX5_finds 9 = .ok (.getfield 38, 3) := by decide +kernel
theorem dX5_finds_12 : decode cX5_finds 12 = .ok (.iload_n 1, 1) := by decide +kernel
theorem dX5_finds_13 : decode cX5_finds 13 = .ok (.iconst (-1), 1) := by decide +kernel
theorem dX5_finds_14 : decode cX5_finds 14 = .ok (.iastore, 1) := by decide +kernel
theorem dX5_finds_15 : decode cX5_finds 15 = .ok (.iinc 1 1, 3) := by decide +kernel
theorem dX5_finds_18 : decode cX5_finds 18 = .ok (.goto (-16), 3) := by decide +kernel
theorem dX5_finds_21 : decode cX5_finds 21 = .ok (.aload_n 0, 1) := by decide +kernel
theorem dX5_finds_22 : decode cX5_finds 22 = .ok (.iconst 0, 1) := by decide +kernel
theorem dX5_finds_23 : decode cX5_finds 23 = .ok (.putfield 115, 3) := by decide +kernel
theorem dX5_finds_26 : decode cX5_finds 26 = .ok (.iconst 0, 1) := by decide +kernel
theorem dX5_finds_27 : decode cX5_finds 27 = .ok (.istore_n 1, 1) := by decide +kernel
theorem dX5_finds_28 : decode cX5_finds 28 = .ok (.iload_n 1, 1) := by decide +kernel
theorem dX5_finds_29 : decode cX5_finds 29 = .ok (.aload_n 0, 1) := by decide +kernel
theorem dX5_finds_30 : decode cX5_finds 30 = .ok (.getfield 7, 3) := by decide +kernel
theorem dX5_finds_33 : decode cX5_finds 33 = .ok (.iconst 0, 1) := by decide +kernel
theorem dX5_finds_34 : decode cX5_finds 34 = .ok (.iaload, 1) := by decide +kernel
theorem dX5_finds_35 : decode cX5_finds 35 = .ok (.if_icmp .ge 36, 3) := by decide +kernel
theorem dX5_finds_38 : decode cX5_finds 38 = .ok (.aload_n 0, 1) := by decide +kernel
theorem dX5_finds_39 : decode cX5_finds 39 = .ok (.getfield 29, 3) := by decide +kernel
theorem dX5_finds_42 : decode cX5_finds 42 = .ok (.iload_n 1, 1) := by decide +kernel
theorem dX5_finds_43 : decode cX5_finds 43 = .ok (.iaload, 1) := by decide +kernel
theorem dX5_finds_44 : decode cX5_finds 44 = .ok (.aload_n 0, 1) := by decide +kernel
theorem dX5_finds_45 : decode cX5_finds 45 = .ok (.iload_n 1, 1) := by decide +kernel
theorem dX5_finds_46 : decode cX5_finds 46 = .ok (.invokevirtual 129, 3) := by decide +kernel
theorem dX5_finds_49 : decode cX5_finds 49 = .ok (.if_icmp .ge 16, 3) := by decide +kernel
theorem dX5_finds_52 : decode cX5_finds 52 = .ok (.aload_n 0, 1) := by decide +kernel
theorem dX5_finds_53 : decode cX5_finds 53 = .ok (.bipush 16, 2) := by decide +kernel
theorem dX5_finds_55 : decode cX5_finds 55 = .ok (.iload_n 1, 1) := by decide +kernel
theorem dX5_finds_56 : decode cX5_finds 56 = .ok (.imul, 1) := by decide +kernel
theorem dX5_finds_57 : decode cX5_finds 57 = .ok (.bipush 16, 2) := by decide +kernel
theorem dX5_finds_59 : decode cX5_finds 59 = .ok (.iload_n 1, 1) := by decide +kernel
theorem dX5_finds_60 : decode cX5_finds 60 = .ok (.imul, 1) := by decide +kernel
theorem dX5_finds_61 : decode cX5_finds 61 = .ok (.iconst 0, 1) := by decide +kernel
theorem dX5_finds_62 : decode cX5_finds 62 = .ok (.invokevirtual 121, 3) := by decide +kernel
theorem dX5_finds_65 : decode cX5_finds 65 = .ok (.iinc 1 1, 3) := by decide +kernel
theorem dX5_finds_68 : decode cX5_finds 68 = .ok (.goto (-40), 3) := by decide +kernel
theorem dX5_finds_71 : decode cX5_finds 71 = .ok (.iconst 0, 1) := by decide +kernel
theorem dX5_finds_72 : decode cX5_finds 72 = .ok (.istore_n 1, 1) := by decide +kernel
theorem dX5_finds_73 : decode cX5_finds 73 = .ok (.iload_n 1, 1) := by decide +kernel
theorem dX5_finds_74 : decode cX5_finds 74 = .ok (.aload_n 0, 1) := by decide +kernel
theorem dX5_finds_75 : decode cX5_finds 75 = .ok (.getfield 115, 3) := by decide +kernel
theorem dX5_finds_78 : decode cX5_finds 78 = .ok (.if_icmp .ge 19, 3) := by decide +kernel
theorem dX5_finds_81 : decode cX5_finds 81 = .ok (.aload_n 0, 1) := by decide +kernel
theorem dX5_finds_82 : decode cX5_finds 82 = .ok (.aload_n 0, 1) := by decide +kernel
theorem dX5_finds_83 : decode cX5_finds 83 = .ok (.getfield 44, 3) := by decide +kernel
theorem dX5_finds_86 : decode cX5_finds 86 = .ok (.iload_n 1, 1) := by decide +kernel
theorem dX5_finds_87 : decode cX5_finds 87 = .ok (.iaload, 1) := by decide +kernel
theorem dX5_finds_88 : decode cX5_finds 88 = .ok (.invokevirtual 132, 3) := by decide +kernel
theorem dX5_finds_91 : decode cX5_finds 91 = .ok (.iinc 1 1, 3) := by decide +kernel
theorem dX5_finds_94 : decode cX5_finds 94 = .ok (.goto (-21), 3) := by decide +kernel
theorem dX5_finds_97 : decode cX5_finds 97 = .ok (.aload_n 0, 1) := by decide +kernel
theorem dX5_finds_98 : decode cX5_finds 98 = .ok (.getfield 38, 3) := by decide +kernel
theorem dX5_finds_101 : decode cX5_finds 101 = .ok (.aload_n 0, 1) := by decide +kernel
theorem dX5_finds_102 : decode cX5_finds 102 = .ok (.getfield 112, 3) := by decide +kernel
theorem dX5_finds_105 : decode cX5_finds 105 = .ok (.iaload, 1) := by decide +kernel
theorem dX5_finds_106 : decode cX5_finds 106 = .ok (.ifCond .lt 7, 3) := by decide +kernel
theorem dX5_finds_109 : decode cX5_finds 109 = .ok (.iconst 1, 1) := by decide +kernel
theorem dX5_finds_110 : decode cX5_finds 110 = .ok (.goto 4, 3) := by decide +kernel
theorem dX5_finds_113 : decode cX5_finds 113 = .ok (.iconst 0, 1) := by decide +kernel
theorem dX5_finds_114 : decode cX5_finds 114 = .ok (.ireturn, 1) := by decide +kernel
set_option maxHeartbeats 4000000 in
set_option maxRecDepth 100000 in
theorem c_X5_finds (l : Launch) (D : va_G) (cI cC cO : ClassId) (a : Nat → Nat) (M : Mm) (res : Int32 × Mm) (sz : Nat) (h : F_X5_finds M = some res) : Met l yX5_finds (Cond.code yX5_finds cX5_finds 2 (Option.some Jvm.ClassFile.FieldType.boolean) :: lw_g) ({ frames := 3, cells := 0, slots := 0, locals := 71 } : Room) (va_Pc [.ref (a 0)] (pS D cI cC cO sz (wX5 a cI cC cO M))) (QI D cI cC cO (va_A (wX5 a cI cC cO M) sz) (wX5 a cI cC cO res.2) res.1) 0 0 (va_A (wX5 a cI cC cO M) sz) := by
  refine Met.ofW (cc := cX5_finds) (maxL := 2) (ret := (Option.some Jvm.ClassFile.FieldType.boolean)) (by decide) rfl ?_
  intro p e s m args below meth c s₁ B hml hv
  obtain ⟨rfl, rfl, hP, hK, hD0, hN⟩ := hv
  have hx := B.exec
  have hb := B.bytes
  have hr := B.returns
  have ht : ∀ w ∈ lw_g, w.before ([.ref (a 0)] : List Value).toArray s = true := fun w hw => atoms_spec (ws := Cond.code yX5_finds cX5_finds 2 (Option.some Jvm.ClassFile.FieldType.boolean) :: lw_g) B.pre w (List.mem_cons_of_mem _ hw)
  have hown : s.vm.findClass RX5 = some m.cls := findClass_of_methodNamed B.named
  have hlocks := B.notSynchronized
  have hD := hD0.self (sz := s.heap.size)
  generalize hAe : va_A (wX5 a cI cC cO M) s.heap.size = A at hD ⊢
  have hA : ∀ q : Nat, s.heap.size ≤ q → A q := fun q hq => by rw [← hAe]; exact Or.inr hq
  have hS : va_S A s.heap s.heap [] := va_S.rf
  have hl := lv_entry ([.ref (a 0)]) (n := 2) (Nat.le_of_ble_eq_true rfl)
  rw [lg_entry_eq]
  generalize (lg_sl ([.ref (a 0)]) ++ List.replicate (2 - (lg_sl ([.ref (a 0)])).length) Slot.unset).toArray = ls at hl ⊢
  have hl : lv_has ls 2 [(0, .ref (a 0))] := hl
  have w73 : ∀ (n73 : Nat) (M : Mm) (y1 : Int32) (H : Heap) (locs : List Loc) (ls : Array Slot), F_X5_finds_73 n73 M y1 = some res → va_P D classes (wX5 a cI cC cO M) H → va_D A (wX5 a cI cC cO M) → va_S A s.heap H locs → lv_has ls 2 [(0, .ref (a 0)), (1, .int y1)] → W p l e ({ frames := 3, cells := 0, slots := 0, locals := 71 } : Room) s m ([.ref (a 0)] : List Value).toArray below meth c H locs 0 0 (MQ below (QI D cI cC cO A (wX5 a cI cC cO res.2) res.1) ([.ref (a 0)] : List Value).toArray s 0 0 A) (F0 m 73 ls []) := by
    intro n73
    induction n73 with
    | zero => intro M y1 H locs ls h hP hD hS hl; exact absurd (show (none : Option (Int32 × Mm)) = some res from h) (by simp)
    | succ n73 ih73 =>
      intro M y1 H locs ls h hP hD hS hl
      have h : F_X5_findsB_73 (F_X5_finds_73 n73) M y1 = some res := h
      unfold F_X5_findsB_73 at h
      refine lv_iload_n hx hb dX5_finds_73 rfl (lv_at hl 1 rfl) ?_
      refine lv_aload_n hx hb dX5_finds_74 rfl (lv_at hl 0 rfl) ?_
      refine va_get (D := D) (ci := 5) (v := .int (M 12 6)) (C := RX5) (T := TX5) (N := 23) hx hb ht i_X5 hown hK hP 0 rfl rfl 18 (by decide) (ht _ wd_554) (fun _ h9 => h9) rfl dX5_finds_75 ?_
      refine lv_icmp_ge (tgt := 97) hx hb dX5_finds_78 (by decide) (fun c1 => ?_) (fun c1 => ?_)
      · replace h := fp c1 h
        refine lv_aload_n hx hb dX5_finds_97 rfl (lv_at hl 0 rfl) ?_
        refine va_get (D := D) (ci := 5) (v := .ref (a 10)) (C := RX5) (T := TX5) (N := 23) hx hb ht i_X5 hown hK hP 0 rfl rfl 14 (by decide) (ht _ wd_550) (fun _ h9 => h9) rfl dX5_finds_98 ?_
        refine lv_aload_n hx hb dX5_finds_101 rfl (lv_at hl 0 rfl) ?_
        refine va_get (D := D) (ci := 5) (v := .int (M 12 5)) (C := RX5) (T := TX5) (N := 23) hx hb ht i_X5 hown hK hP 0 rfl rfl 17 (by decide) (ht _ wd_553) (fun _ h9 => h9) rfl dX5_finds_102 ?_
        obtain ⟨i2, h⟩ := ck_ok h
        refine va_iald hx hb hK hP 10 0 rfl rfl i2 dX5_finds_105 ?_
        refine lv_if_lt (tgt := 113) hx hb dX5_finds_106 (by decide) (fun c3 => ?_) (fun c3 => ?_)
        · replace h := fp c3 h
          refine lv_iconst (v := (0 : Int32)) hx hb dX5_finds_113 (by decide) ?_
          cases h
          exact rt_z (v := (0 : Int32)) hx hb hr rfl hlocks hS hP hK hD dX5_finds_114
        · replace h := fn c3 h
          refine lv_iconst (v := (1 : Int32)) hx hb dX5_finds_109 (by decide) ?_
          refine lv_goto (tgt := 114) hx hb dX5_finds_110 (by decide) ?_
          cases h
          exact rt_z (v := (1 : Int32)) hx hb hr rfl hlocks hS hP hK hD dX5_finds_114
      · replace h := fn c1 h
        refine lv_aload_n hx hb dX5_finds_81 rfl (lv_at hl 0 rfl) ?_
        refine lv_aload_n hx hb dX5_finds_82 rfl (lv_at hl 0 rfl) ?_
        refine va_get (D := D) (ci := 5) (v := .ref (a 12)) (C := RX5) (T := TX5) (N := 23) hx hb ht i_X5 hown hK hP 0 rfl rfl 16 (by decide) (ht _ wd_552) (fun _ h9 => h9) rfl dX5_finds_83 ?_
        refine lv_iload_n hx hb dX5_finds_86 rfl (lv_at hl 1 rfl) ?_
        obtain ⟨i4, h⟩ := ck_ok h
        refine va_iald hx hb hK hP 12 0 rfl rfl i4 dX5_finds_87 ?_
        obtain ⟨M5, e6, h⟩ := b1_ok h
        refine cl_Vv (ws' := (wX5 a cI cC cO M5)) ⟨hx, hb, hml, hown, ht⟩ (c_X5_looks l D cI cC cO a M (M 11 y1.toNatClampNeg) _ _ e6) (cwv 1 ht wd_716 wd_6 wd_713 wd_715 ws_35 (by decide +kernel) rfl rfl ⟨Nat.le_of_ble_eq_true rfl, Nat.le_of_ble_eq_true rfl⟩) 5 0 rfl rfl rfl hK hP hD hS hA hN [0, 1, 2, 3, 4, 5, 6, 7, 8, 9, 10, 11, 12] [] [0, 1, 2, 3, 4, 5, 6, 7, 8, 9, 10, 11, 12] (by decide) rfl rfl (by decide) (by decide) rfl (by decide) rfl hl.1 rfl (Nat.le_of_ble_eq_true rfl) dX5_finds_88 ⟨Nat.le_of_ble_eq_true rfl, Nat.le_of_ble_eq_true rfl⟩ (fun H locs hP hD hS => ?_)
        refine lv_iinc (v := (y1 + 1)) (lv' := [(1, .int (y1 + 1)), (0, .ref (a 0))]) hx hb dX5_finds_91 hl (k := 1) rfl rfl (by decide) rfl (fun ls hl => ?_)
        refine lv_goto (tgt := 73) hx hb dX5_finds_94 (by decide) ?_
        exact ih73 M5 (y1 + 1) _ _ ls h hP hD hS (lv_sub hl [1, 0] rfl)
  have w28 : ∀ (n28 : Nat) (M : Mm) (y1 : Int32) (H : Heap) (locs : List Loc) (ls : Array Slot), F_X5_finds_28 n28 M y1 = some res → va_P D classes (wX5 a cI cC cO M) H → va_D A (wX5 a cI cC cO M) → va_S A s.heap H locs → lv_has ls 2 [(0, .ref (a 0)), (1, .int y1)] → W p l e ({ frames := 3, cells := 0, slots := 0, locals := 71 } : Room) s m ([.ref (a 0)] : List Value).toArray below meth c H locs 0 0 (MQ below (QI D cI cC cO A (wX5 a cI cC cO res.2) res.1) ([.ref (a 0)] : List Value).toArray s 0 0 A) (F0 m 28 ls []) := by
    intro n28
    induction n28 with
    | zero => intro M y1 H locs ls h hP hD hS hl; exact absurd (show (none : Option (Int32 × Mm)) = some res from h) (by simp)
    | succ n28 ih28 =>
      intro M y1 H locs ls h hP hD hS hl
      have h : F_X5_findsB_28 (F_X5_finds_28 n28) M y1 = some res := h
      unfold F_X5_findsB_28 at h
      refine lv_iload_n hx hb dX5_finds_28 rfl (lv_at hl 1 rfl) ?_
      refine lv_aload_n hx hb dX5_finds_29 rfl (lv_at hl 0 rfl) ?_
      refine va_get (D := D) (ci := 5) (v := .ref (a 1)) (C := RX5) (T := TX5) (N := 23) hx hb ht i_X5 hown hK hP 0 rfl rfl 0 (by decide) (ht _ wd_536) (fun _ h9 => h9) rfl dX5_finds_30 ?_
      refine lv_iconst (v := (0 : Int32)) hx hb dX5_finds_33 (by decide) ?_
      obtain ⟨i1, h⟩ := ck_ok h
      refine va_iald hx hb hK hP 1 0 rfl rfl i1 dX5_finds_34 ?_
      refine lv_icmp_ge (tgt := 71) hx hb dX5_finds_35 (by decide) (fun c2 => ?_) (fun c2 => ?_)
      · replace h := fp c2 h
        refine lv_iconst (v := (0 : Int32)) hx hb dX5_finds_71 (by decide) ?_
        refine lv_istore_n (lv' := [(1, .int (0 : Int32)), (0, .ref (a 0))]) hx hb dX5_finds_72 rfl hl (by decide) rfl (fun ls hl => ?_)
        exact w73 FU M (0 : Int32) _ _ ls h hP hD hS (lv_sub hl [1, 0] rfl)
      · replace h := fn c2 h
        refine lv_aload_n hx hb dX5_finds_38 rfl (lv_at hl 0 rfl) ?_
        refine va_get (D := D) (ci := 5) (v := .ref (a 7)) (C := RX5) (T := TX5) (N := 23) hx hb ht i_X5 hown hK hP 0 rfl rfl 11 (by decide) (ht _ wd_547) (fun _ h9 => h9) rfl dX5_finds_39 ?_
        refine lv_iload_n hx hb dX5_finds_42 rfl (lv_at hl 1 rfl) ?_
        obtain ⟨i3, h⟩ := ck_ok h
        refine va_iald hx hb hK hP 7 0 rfl rfl i3 dX5_finds_43 ?_
        refine lv_aload_n hx hb dX5_finds_44 rfl (lv_at hl 0 rfl) ?_
        refine lv_iload_n hx hb dX5_finds_45 rfl (lv_at hl 1 rfl) ?_
        obtain ⟨u4, e5, h⟩ := b1_ok h
        refine cl_Vi (ws' := (wX5 a cI cC cO M)) ⟨hx, hb, hml, hown, ht⟩ (c_X5_unitsOf l D cI cC cO a M y1 _ _ e5) (cwv 1 ht wd_707 wd_6 wd_704 wd_706 ws_33 (by decide +kernel) rfl rfl ⟨Nat.le_of_ble_eq_true rfl, Nat.le_of_ble_eq_true rfl⟩) 5 0 rfl rfl rfl hK hP hD hS hA hN [0, 1, 2, 3, 4, 5, 6, 7, 8, 9, 10, 11, 12] [] [0, 1, 2, 3, 4, 5, 6, 7, 8, 9, 10, 11, 12] (by decide) rfl rfl (by decide) (by decide) rfl (by decide) rfl hl.1 rfl (Nat.le_of_ble_eq_true rfl) dX5_finds_46 ⟨Nat.le_of_ble_eq_true rfl, Nat.le_of_ble_eq_true rfl⟩ (fun H locs hP hD hS => ?_)
        refine lv_icmp_ge (tgt := 65) hx hb dX5_finds_49 (by decide) (fun c6 => ?_) (fun c6 => ?_)
        · replace h := fp c6 h
          refine lv_iinc (v := (y1 + 1)) (lv' := [(1, .int (y1 + 1)), (0, .ref (a 0))]) hx hb dX5_finds_65 hl (k := 1) rfl rfl (by decide) rfl (fun ls hl => ?_)
          refine lv_goto (tgt := 28) hx hb dX5_finds_68 (by decide) ?_
          exact ih28 M (y1 + 1) _ _ ls h hP hD hS (lv_sub hl [1, 0] rfl)
        · replace h := fn c6 h
          refine lv_aload_n hx hb dX5_finds_52 rfl (lv_at hl 0 rfl) ?_
          refine lv_bipush (v := (16 : Int32)) hx hb dX5_finds_53 (by decide) ?_
          refine lv_iload_n hx hb dX5_finds_55 rfl (lv_at hl 1 rfl) ?_
          refine lv_imul hx hb dX5_finds_56 ?_
          refine lv_bipush (v := (16 : Int32)) hx hb dX5_finds_57 (by decide) ?_
          refine lv_iload_n hx hb dX5_finds_59 rfl (lv_at hl 1 rfl) ?_
          refine lv_imul hx hb dX5_finds_60 ?_
          refine lv_iconst (v := (0 : Int32)) hx hb dX5_finds_61 (by decide) ?_
          obtain ⟨M7, e8, h⟩ := b1_ok h
          refine cl_Vv (ws' := (wX5 a cI cC cO M7)) ⟨hx, hb, hml, hown, ht⟩ (c_X5_reaches l D cI cC cO a M ((16 : Int32) * y1) ((16 : Int32) * y1) (0 : Int32) _ _ e8) (cwv 3 ht wd_712 wd_6 wd_709 wd_711 ws_34 (by decide +kernel) rfl rfl ⟨Nat.le_of_ble_eq_true rfl, Nat.le_of_ble_eq_true rfl⟩) 5 0 rfl rfl rfl hK hP hD hS hA hN [0, 1, 2, 3, 4, 5, 6, 7, 8, 9, 10, 11, 12] [] [0, 1, 2, 3, 4, 5, 6, 7, 8, 9, 10, 11, 12] (by decide) rfl rfl (by decide) (by decide) rfl (by decide) rfl hl.1 rfl (Nat.le_of_ble_eq_true rfl) dX5_finds_62 ⟨Nat.le_of_ble_eq_true rfl, Nat.le_of_ble_eq_true rfl⟩ (fun H locs hP hD hS => ?_)
          refine lv_iinc (v := (y1 + 1)) (lv' := [(1, .int (y1 + 1)), (0, .ref (a 0))]) hx hb dX5_finds_65 hl (k := 1) rfl rfl (by decide) rfl (fun ls hl => ?_)
          refine lv_goto (tgt := 28) hx hb dX5_finds_68 (by decide) ?_
          exact ih28 M7 (y1 + 1) _ _ ls h hP hD hS (lv_sub hl [1, 0] rfl)
  have w2 : ∀ (n2 : Nat) (M : Mm) (y1 : Int32) (H : Heap) (locs : List Loc) (ls : Array Slot), F_X5_finds_2 n2 M y1 = some res → va_P D classes (wX5 a cI cC cO M) H → va_D A (wX5 a cI cC cO M) → va_S A s.heap H locs → lv_has ls 2 [(0, .ref (a 0)), (1, .int y1)] → W p l e ({ frames := 3, cells := 0, slots := 0, locals := 71 } : Room) s m ([.ref (a 0)] : List Value).toArray below meth c H locs 0 0 (MQ below (QI D cI cC cO A (wX5 a cI cC cO res.2) res.1) ([.ref (a 0)] : List Value).toArray s 0 0 A) (F0 m 2 ls []) := by
    intro n2
    induction n2 with
    | zero => intro M y1 H locs ls h hP hD hS hl; exact absurd (show (none : Option (Int32 × Mm)) = some res from h) (by simp)
    | succ n2 ih2 =>
      intro M y1 H locs ls h hP hD hS hl
      have h : F_X5_findsB_2 (F_X5_finds_2 n2) M y1 = some res := h
      unfold F_X5_findsB_2 at h
      refine lv_iload_n hx hb dX5_finds_2 rfl (lv_at hl 1 rfl) ?_
      refine lv_bipush (v := (96 : Int32)) hx hb dX5_finds_3 (by decide) ?_
      refine lv_icmp_ge (tgt := 21) hx hb dX5_finds_5 (by decide) (fun c1 => ?_) (fun c1 => ?_)
      · replace h := fp c1 h
        refine lv_aload_n hx hb dX5_finds_21 rfl (lv_at hl 0 rfl) ?_
        refine lv_iconst (v := (0 : Int32)) hx hb dX5_finds_22 (by decide) ?_
        refine va_put (D := D) (ci := 5) (v := .int (0 : Int32)) (ty := .int) (C := RX5) (T := TX5) (N := 23) hx hb ht i_X5 tyX5 tyX5_ok nmX5 hown hK hP hD hS 0 rfl rfl 18 (by decide) (ht _ wd_554) (fun _ h9 => h9) rfl (by decide +kernel) rfl rfl (Nat.le_of_ble_eq_true rfl) dX5_finds_23 (fun H locs hP hD hS => ?_)
        obtain ⟨M2, e3, h⟩ := sv_ok h
        have hP : va_P D classes (wX5 a cI cC cO M2) H := by rw [← e3]; exact hP
        have hD : va_D A (wX5 a cI cC cO M2) := by rw [← e3]; exact hD
        refine lv_iconst (v := (0 : Int32)) hx hb dX5_finds_26 (by decide) ?_
        refine lv_istore_n (lv' := [(1, .int (0 : Int32)), (0, .ref (a 0))]) hx hb dX5_finds_27 rfl hl (by decide) rfl (fun ls hl => ?_)
        exact w28 FU M2 (0 : Int32) _ _ ls h hP hD hS (lv_sub hl [1, 0] rfl)
      · replace h := fn c1 h
        refine lv_aload_n hx hb dX5_finds_8 rfl (lv_at hl 0 rfl) ?_
        refine va_get (D := D) (ci := 5) (v := .ref (a 10)) (C := RX5) (T := TX5) (N := 23) hx hb ht i_X5 hown hK hP 0 rfl rfl 14 (by decide) (ht _ wd_550) (fun _ h9 => h9) rfl dX5_finds_9 ?_
        refine lv_iload_n hx hb dX5_finds_12 rfl (lv_at hl 1 rfl) ?_
        refine lv_iconst (v := (-1 : Int32)) hx hb dX5_finds_13 (by decide) ?_
        obtain ⟨i4, h⟩ := ck_ok h
        refine va_iast hx hb hK hP hD hS 10 0 rfl rfl i4 dX5_finds_14 (fun H locs hP hD hS => ?_)
        obtain ⟨M5, e6, h⟩ := sv_ok h
        have hP : va_P D classes (wX5 a cI cC cO M5) H := by rw [← e6]; exact hP
        have hD : va_D A (wX5 a cI cC cO M5) := by rw [← e6]; exact hD
        refine lv_iinc (v := (y1 + 1)) (lv' := [(1, .int (y1 + 1)), (0, .ref (a 0))]) hx hb dX5_finds_15 hl (k := 1) rfl rfl (by decide) rfl (fun ls hl => ?_)
        refine lv_goto (tgt := 2) hx hb dX5_finds_18 (by decide) ?_
        exact ih2 M5 (y1 + 1) _ _ ls h hP hD hS (lv_sub hl [1, 0] rfl)
  unfold F_X5_finds at h
  refine lv_iconst (v := (0 : Int32)) hx hb dX5_finds_0 (by decide) ?_
  refine lv_istore_n (lv' := [(1, .int (0 : Int32)), (0, .ref (a 0))]) hx hb dX5_finds_1 rfl hl (by decide) rfl (fun ls hl => ?_)
  exact w2 FU M (0 : Int32) _ _ ls h hP hD hS (lv_sub hl [1, 0] rfl)
theorem dX5_goes_0 : decode cX5_goes 0 = .ok (.aload_n 0, 1) := by decide +kernel
theorem dX5_goes_1 : decode cX5_goes 1 = .ok (.getfield 112, 3) := by decide +kernel
theorem dX5_goes_4 : decode cX5_goes 4 = .ok (.istore_n 1, 1) := by decide +kernel
theorem dX5_goes_5 : decode cX5_goes 5 = .ok (.aload_n 0, 1) := by decide +kernel
theorem dX5_goes_6 : decode cX5_goes 6 = .ok (.getfield 41, 3) := by decide +kernel
theorem dX5_goes_9 : decode cX5_goes 9 = .ok (.iload_n 1, 1) := by decide +kernel
theorem dX5_goes_10 : decode cX5_goes 10 = .ok (.iaload, 1) := by decide +kernel
theorem dX5_goes_11 : decode cX5_goes 11 = .ok (.ifCond .eq 121, 3) := by decide +kernel
theorem dX5_goes_14 : decode cX5_goes 14 = .ok (.aload_n 0, 1) := by decide +kernel
theorem dX5_goes_15 : decode cX5_goes 15 = .ok (.getfield 38, 3) := by decide +kernel
theorem dX5_goes_18 : decode cX5_goes 18 = .ok (.iload_n 1, 1) := by decide +kernel
theorem dX5_goes_19 : decode cX5_goes 19 = .ok (.iaload, 1) := by decide +kernel
theorem dX5_goes_20 : decode cX5_goes 20 = .ok (.istore_n 2, 1) := by decide +kernel
theorem dX5_goes_21 : decode cX5_goes 21 = .ok (.aload_n 0, 1) := by decide +kernel
theorem dX5_goes_22 : decode cX5_goes 22 = .ok (.getfield 41, 3) := by decide +kernel
theorem dX5_goes_25 : decode cX5_goes 25 = .ok (.iload_n 1, 1) := by decide +kernel
theorem dX5_goes_26 : decode cX5_goes 26 = .ok (.iaload, 1) := by decide +kernel
theorem dX5_goes_27 : decode cX5_goes 27 = .ok (.bipush 16, 2) := by decide +kernel
theorem dX5_goes_29 : decode cX5_goes 29 = .ok (.irem, 1) := by decide +kernel
theorem dX5_goes_30 : decode cX5_goes 30 = .ok (.istore_n 3, 1) := by decide +kernel
theorem dX5_goes_31 : decode cX5_goes 31 = .ok (.aload_n 0, 1) := by decide +kernel
theorem dX5_goes_32 : decode cX5_goes 32 = .ok (.getfield 41, 3) := by decide +kernel
theorem dX5_goes_35 : decode cX5_goes 35 = .ok (.iload_n 1, 1) := by decide +kernel
theorem dX5_goes_36 : decode cX5_goes 36 = .ok (.iaload, 1) := by decide +kernel
theorem dX5_goes_37 : decode cX5_goes 37 = .ok (.iconst 1, 1) := by decide +kernel
theorem dX5_goes_38 : decode cX5_goes 38 = .ok (.if_icmp .ne 16, 3) := by decide +kernel
theorem dX5_goes_41 : decode cX5_goes 41 = .ok (.aload_n 0, 1) := by decide +kernel
theorem dX5_goes_42 : decode cX5_goes 42 = .ok (.getfield 32, 3) := by decide +kernel
theorem dX5_goes_45 : decode cX5_goes 45 = .ok (.iload_n 2, 1) := by decide +kernel
theorem dX5_goes_46 : decode cX5_goes 46 = .ok (.dup2, 1) := by decide +kernel
theorem dX5_goes_47 : decode cX5_goes 47 = .ok (.iaload, 1) := by decide +kernel
theorem dX5_goes_48 : decode cX5_goes 48 = .ok (.iconst 1, 1) := by decide +kernel
theorem dX5_goes_49 : decode cX5_goes 49 = .ok (.iadd, 1) := by decide +kernel
theorem dX5_goes_50 : decode cX5_goes 50 = .ok (.iastore, 1) := by decide +kernel
theorem dX5_goes_51 : decode cX5_goes 51 = .ok (.goto 76, 3) := by decide +kernel
theorem dX5_goes_54 : decode cX5_goes 54 = .ok (.aload_n 0, 1) := by decide +kernel
theorem dX5_goes_55 : decode cX5_goes 55 = .ok (.getfield 41, 3) := by decide +kernel
theorem dX5_goes_58 : decode cX5_goes 58 = .ok (.iload_n 1, 1) := by decide +kernel
theorem dX5_goes_59 : decode cX5_goes 59 = .ok (.iaload, 1) := by decide +kernel
theorem dX5_goes_60 : decode cX5_goes 60 = .ok (.iconst 2, 1) := by decide +kernel
theorem dX5_goes_61 : decode cX5_goes 61 = .ok (.if_icmp .ne 16, 3) := by decide +kernel
theorem dX5_goes_64 : decode cX5_goes 64 = .ok (.aload_n 0, 1) := by decide +kernel
theorem dX5_goes_65 : decode cX5_goes 65 = .ok (.getfield 32, 3) := by decide +kernel
theorem dX5_goes_68 : decode cX5_goes 68 = .ok (.iload_n 1, 1) := by decide +kernel
theorem dX5_goes_69 : decode cX5_goes 69 = .ok (.dup2, 1) := by decide +kernel
theorem dX5_goes_70 : decode cX5_goes 70 = .ok (.iaload, 1) := by decide +kernel
theorem dX5_goes_71 : decode cX5_goes 71 = .ok (.iconst 1, 1) := by decide +kernel
theorem dX5_goes_72 : decode cX5_goes 72 = .ok (.isub, 1) := by decide +kernel
theorem dX5_goes_73 : decode cX5_goes 73 = .ok (.iastore, 1) := by decide +kernel
theorem dX5_goes_74 : decode cX5_goes 74 = .ok (.goto 53, 3) := by decide +kernel
theorem dX5_goes_77 : decode cX5_goes 77 = .ok (.aload_n 0, 1) := by decide +kernel
theorem dX5_goes_78 : decode cX5_goes 78 = .ok (.getfield 41, 3) := by decide +kernel
theorem dX5_goes_81 : decode cX5_goes 81 = .ok (.iload_n 1, 1) := by decide +kernel
theorem dX5_goes_82 : decode cX5_goes 82 = .ok (.iaload, 1) := by decide +kernel
theorem dX5_goes_83 : decode cX5_goes 83 = .ok (.bipush 32, 2) := by decide +kernel
theorem dX5_goes_85 : decode cX5_goes 85 = .ok (.if_icmp .ge 24, 3) := by decide +kernel
theorem dX5_goes_88 : decode cX5_goes 88 = .ok (.aload_n 0, 1) := by decide +kernel
theorem dX5_goes_89 : decode cX5_goes 89 = .ok (.getfield 35, 3) := by decide +kernel
theorem dX5_goes_92 : decode cX5_goes 92 = .ok (.bipush 16, 2) := by decide +kernel
theorem dX5_goes_94 : decode cX5_goes 94 = .ok (.iload_n 3, 1) := by decide +kernel
theorem dX5_goes_95 : decode cX5_goes 95 = .ok (.imul, 1) := by decide +kernel
theorem dX5_goes_96 : decode cX5_goes 96 = .ok (.iload_n 2, 1) := by decide +kernel
theorem dX5_goes_97 : decode cX5_goes 97 = .ok (.bipush 16, 2) := by decide +kernel
theorem dX5_goes_99 : decode cX5_goes 99 = .ok (.irem, 1) := by decide +kernel
theorem dX5_goes_100 : decode cX5_goes 100 = .ok (.iadd, 1) := by decide +kernel
theorem dX5_goes_101 : decode cX5_goes 101 = .ok (.dup2, 1) := by decide +kernel
theorem dX5_goes_102 : decode cX5_goes 102 = .ok (.iaload, 1) := by decide +kernel
theorem dX5_goes_103 : decode cX5_goes 103 = .ok (.iconst 1, 1) := by decide +kernel
theorem dX5_goes_104 : decode cX5_goes 104 = .ok (.iadd, 1) := by decide +kernel
theorem dX5_goes_105 : decode cX5_goes 105 = .ok (.iastore, 1) := by decide +kernel
theorem dX5_goes_106 : decode cX5_goes 106 = .ok (.goto 21, 3) := by decide +kernel
theorem dX5_goes_109 : decode cX5_goes 109 = .ok (.aload_n 0, 1) := by decide +kernel
theorem dX5_goes_110 : decode cX5_goes 110 = .ok (.getfield 35, 3) := by decide +kernel
theorem dX5_goes_113 : decode cX5_goes 113 = .ok (.bipush 16, 2) := by decide +kernel
theorem dX5_goes_115 : decode cX5_goes 115 = .ok (.iload_n 3, 1) := by decide +kernel
theorem dX5_goes_116 : decode cX5_goes 116 = .ok (.imul, 1) := by decide +kernel
theorem dX5_goes_117 : decode cX5_goes 117 = .ok (.iload_n 1, 1) := by decide +kernel
theorem dX5_goes_118 : decode cX5_goes 118 = .ok (.bipush 16, 2) := by decide +kernel
theorem dX5_goes_120 : decode cX5_goes 120 = .ok (.irem, 1) := by decide +kernel
theorem dX5_goes_121 : decode cX5_goes 121 = .ok (.iadd, 1) := by decide +kernel
theorem dX5_goes_122 : decode cX5_goes 122 = .ok (.dup2, 1) := by decide +kernel
theorem dX5_goes_123 : decode cX5_goes 123 = .ok (.iaload, 1) := by decide +kernel
theorem dX5_goes_124 : decode cX5_goes 124 = .ok (.iconst 1, 1) := by decide +kernel
theorem dX5_goes_125 : decode cX5_goes 125 = .ok (.isub, 1) := by decide +kernel
theorem dX5_goes_126 : decode cX5_goes 126 = .ok (.iastore, 1) := by decide +kernel
theorem dX5_goes_127 : decode cX5_goes 127 = .ok (.iload_n 2, 1) := by decide +kernel
theorem dX5_goes_128 : decode cX5_goes 128 = .ok (.istore_n 1, 1) := by decide +kernel
theorem dX5_goes_129 : decode cX5_goes 129 = .ok (.goto (-124), 3) := by decide +kernel
theorem dX5_goes_132 : decode cX5_goes 132 = .ok (.aload_n 0, 1) := by decide +kernel
theorem dX5_goes_133 : decode cX5_goes 133 = .ok (.getfield 29, 3) := by decide +kernel
theorem dX5_goes_136 : decode cX5_goes 136 = .ok (.iload_n 1, 1) := by decide +kernel
theorem dX5_goes_137 : decode cX5_goes 137 = .ok (.bipush 16, 2) := by decide +kernel
theorem dX5_goes_139 : decode cX5_goes 139 = .ok (.idiv, 1) := by decide +kernel
theorem dX5_goes_140 : decode cX5_goes 140 = .ok (.dup2, 1) := by decide +kernel
theorem dX5_goes_141 : decode cX5_goes 141 = .ok (.iaload, 1) := by decide +kernel
theorem dX5_goes_142 : decode cX5_goes 142 = .ok (.iconst 1, 1) := by decide +kernel
theorem dX5_goes_143 : decode cX5_goes 143 = .ok (.iadd, 1) := by decide +kernel
theorem dX5_goes_144 : decode cX5_goes 144 = .ok (.iastore, 1) := by decide +kernel
theorem dX5_goes_145 : decode cX5_goes 145 = .ok (.return_, 1) := by decide +kernel
set_option maxHeartbeats 4000000 in
set_option maxRecDepth 100000 in
theorem c_X5_goes (l : Launch) (D : va_G) (cI cC cO : ClassId) (a : Nat → Nat) (M : Mm) (res : Mm) (sz : Nat) (h : F_X5_goes M = some res) : Met l yX5_goes (Cond.code yX5_goes cX5_goes 4 (Option.none : Option Jvm.ClassFile.FieldType) :: lw_g) ({ frames := 0, cells := 0, slots := 0, locals := 0 } : Room) (va_Pc [.ref (a 0)] (pS D cI cC cO sz (wX5 a cI cC cO M))) (QV D cI cC cO (va_A (wX5 a cI cC cO M) sz) (wX5 a cI cC cO res)) 0 0 (va_A (wX5 a cI cC cO M) sz) := by
  refine Met.ofW (cc := cX5_goes) (maxL := 4) (ret := (Option.none : Option Jvm.ClassFile.FieldType)) (by decide) rfl ?_
  intro p e s m args below meth c s₁ B hml hv
  obtain ⟨rfl, rfl, hP, hK, hD0, hN⟩ := hv
  have hx := B.exec
  have hb := B.bytes
  have hr := B.returns
  have ht : ∀ w ∈ lw_g, w.before ([.ref (a 0)] : List Value).toArray s = true := fun w hw => atoms_spec (ws := Cond.code yX5_goes cX5_goes 4 (Option.none : Option Jvm.ClassFile.FieldType) :: lw_g) B.pre w (List.mem_cons_of_mem _ hw)
  have hown : s.vm.findClass RX5 = some m.cls := findClass_of_methodNamed B.named
  have hlocks := B.notSynchronized
  have hD := hD0.self (sz := s.heap.size)
  generalize hAe : va_A (wX5 a cI cC cO M) s.heap.size = A at hD ⊢
  have hA : ∀ q : Nat, s.heap.size ≤ q → A q := fun q hq => by rw [← hAe]; exact Or.inr hq
  have hS : va_S A s.heap s.heap [] := va_S.rf
  have hl := lv_entry ([.ref (a 0)]) (n := 4) (Nat.le_of_ble_eq_true rfl)
  rw [lg_entry_eq]
  generalize (lg_sl ([.ref (a 0)]) ++ List.replicate (4 - (lg_sl ([.ref (a 0)])).length) Slot.unset).toArray = ls at hl ⊢
  have hl : lv_has ls 4 [(0, .ref (a 0))] := hl
  have w5 : ∀ (n5 : Nat) (M : Mm) (y1 : Int32) (H : Heap) (locs : List Loc) (ls : Array Slot), F_X5_goes_5 n5 M y1 = some res → va_P D classes (wX5 a cI cC cO M) H → va_D A (wX5 a cI cC cO M) → va_S A s.heap H locs → lv_has ls 4 [(0, .ref (a 0)), (1, .int y1)] → W p l e ({ frames := 0, cells := 0, slots := 0, locals := 0 } : Room) s m ([.ref (a 0)] : List Value).toArray below meth c H locs 0 0 (MQ below (QV D cI cC cO A (wX5 a cI cC cO res)) ([.ref (a 0)] : List Value).toArray s 0 0 A) (F0 m 5 ls []) := by
    intro n5
    induction n5 with
    | zero => intro M y1 H locs ls h hP hD hS hl; exact absurd (show (none : Option (Mm)) = some res from h) (by simp)
    | succ n5 ih5 =>
      intro M y1 H locs ls h hP hD hS hl
      have h : F_X5_goesB_5 (F_X5_goes_5 n5) M y1 = some res := h
      unfold F_X5_goesB_5 at h
      refine lv_aload_n hx hb dX5_goes_5 rfl (lv_at hl 0 rfl) ?_
      refine va_get (D := D) (ci := 5) (v := .ref (a 11)) (C := RX5) (T := TX5) (N := 23) hx hb ht i_X5 hown hK hP 0 rfl rfl 15 (by decide) (ht _ wd_551) (fun _ h9 => h9) rfl dX5_goes_6 ?_
      refine lv_iload_n hx hb dX5_goes_9 rfl (lv_at hl 1 rfl) ?_
      obtain ⟨i1, h⟩ := ck_ok h
      refine va_iald hx hb hK hP 11 0 rfl rfl i1 dX5_goes_10 ?_
      refine lv_if_eq (tgt := 132) hx hb dX5_goes_11 (by decide) (fun c2 => ?_) (fun c2 => ?_)
      · replace h := fp c2 h
        refine lv_aload_n hx hb dX5_goes_132 rfl (lv_at hl 0 rfl) ?_
        refine va_get (D := D) (ci := 5) (v := .ref (a 7)) (C := RX5) (T := TX5) (N := 23) hx hb ht i_X5 hown hK hP 0 rfl rfl 11 (by decide) (ht _ wd_547) (fun _ h9 => h9) rfl dX5_goes_133 ?_
        refine lv_iload_n hx hb dX5_goes_136 rfl (lv_at hl 1 rfl) ?_
        refine lv_bipush (v := (16 : Int32)) hx hb dX5_goes_137 (by decide) ?_
        refine lv_idiv hx hb dX5_goes_139 (by decide) ?_
        refine lv_dup2_11 hx hb dX5_goes_140 rfl rfl ?_
        obtain ⟨i3, h⟩ := ck_ok h
        refine va_iald hx hb hK hP 7 0 rfl rfl i3 dX5_goes_141 ?_
        refine lv_iconst (v := (1 : Int32)) hx hb dX5_goes_142 (by decide) ?_
        refine lv_iadd hx hb dX5_goes_143 ?_
        obtain ⟨i4, h⟩ := ck_ok h
        refine va_iast hx hb hK hP hD hS 7 0 rfl rfl i4 dX5_goes_144 (fun H locs hP hD hS => ?_)
        obtain ⟨M5, e6, h⟩ := sv_ok h
        have hP : va_P D classes (wX5 a cI cC cO M5) H := by rw [← e6]; exact hP
        have hD : va_D A (wX5 a cI cC cO M5) := by rw [← e6]; exact hD
        cases h
        exact rt_v hx hb hr hlocks hS hP hK hD dX5_goes_145
      · replace h := fn c2 h
        refine lv_aload_n hx hb dX5_goes_14 rfl (lv_at hl 0 rfl) ?_
        refine va_get (D := D) (ci := 5) (v := .ref (a 10)) (C := RX5) (T := TX5) (N := 23) hx hb ht i_X5 hown hK hP 0 rfl rfl 14 (by decide) (ht _ wd_550) (fun _ h9 => h9) rfl dX5_goes_15 ?_
        refine lv_iload_n hx hb dX5_goes_18 rfl (lv_at hl 1 rfl) ?_
        obtain ⟨i7, h⟩ := ck_ok h
        refine va_iald hx hb hK hP 10 0 rfl rfl i7 dX5_goes_19 ?_
        refine lv_istore_n (lv' := [(2, .int (M 9 y1.toNatClampNeg)), (0, .ref (a 0)), (1, .int y1)]) hx hb dX5_goes_20 rfl hl (by decide) rfl (fun ls hl => ?_)
        refine lv_aload_n hx hb dX5_goes_21 rfl (lv_at hl 1 rfl) ?_
        refine va_get (D := D) (ci := 5) (v := .ref (a 11)) (C := RX5) (T := TX5) (N := 23) hx hb ht i_X5 hown hK hP 0 rfl rfl 15 (by decide) (ht _ wd_551) (fun _ h9 => h9) rfl dX5_goes_22 ?_
        refine lv_iload_n hx hb dX5_goes_25 rfl (lv_at hl 2 rfl) ?_
        obtain ⟨i8, h⟩ := ck_ok h
        refine va_iald hx hb hK hP 11 0 rfl rfl i8 dX5_goes_26 ?_
        refine lv_bipush (v := (16 : Int32)) hx hb dX5_goes_27 (by decide) ?_
        refine lv_irem hx hb dX5_goes_29 (by decide) ?_
        refine lv_istore_n (lv' := [(3, .int ((M 10 y1.toNatClampNeg) - (M 10 y1.toNatClampNeg) / (16 : Int32) * (16 : Int32))), (2, .int (M 9 y1.toNatClampNeg)), (0, .ref (a 0)), (1, .int y1)]) hx hb dX5_goes_30 rfl hl (by decide) rfl (fun ls hl => ?_)
        refine lv_aload_n hx hb dX5_goes_31 rfl (lv_at hl 2 rfl) ?_
        refine va_get (D := D) (ci := 5) (v := .ref (a 11)) (C := RX5) (T := TX5) (N := 23) hx hb ht i_X5 hown hK hP 0 rfl rfl 15 (by decide) (ht _ wd_551) (fun _ h9 => h9) rfl dX5_goes_32 ?_
        refine lv_iload_n hx hb dX5_goes_35 rfl (lv_at hl 3 rfl) ?_
        obtain ⟨i9, h⟩ := ck_ok h
        refine va_iald hx hb hK hP 11 0 rfl rfl i9 dX5_goes_36 ?_
        refine lv_iconst (v := (1 : Int32)) hx hb dX5_goes_37 (by decide) ?_
        refine lv_icmp_ne (tgt := 54) hx hb dX5_goes_38 (by decide) (fun c10 => ?_) (fun c10 => ?_)
        · replace h := fn c10 h
          refine lv_aload_n hx hb dX5_goes_54 rfl (lv_at hl 2 rfl) ?_
          refine va_get (D := D) (ci := 5) (v := .ref (a 11)) (C := RX5) (T := TX5) (N := 23) hx hb ht i_X5 hown hK hP 0 rfl rfl 15 (by decide) (ht _ wd_551) (fun _ h9 => h9) rfl dX5_goes_55 ?_
          refine lv_iload_n hx hb dX5_goes_58 rfl (lv_at hl 3 rfl) ?_
          obtain ⟨i11, h⟩ := ck_ok h
          refine va_iald hx hb hK hP 11 0 rfl rfl i11 dX5_goes_59 ?_
          refine lv_iconst (v := (2 : Int32)) hx hb dX5_goes_60 (by decide) ?_
          refine lv_icmp_ne (tgt := 77) hx hb dX5_goes_61 (by decide) (fun c12 => ?_) (fun c12 => ?_)
          · replace h := fn c12 h
            refine lv_aload_n hx hb dX5_goes_77 rfl (lv_at hl 2 rfl) ?_
            refine va_get (D := D) (ci := 5) (v := .ref (a 11)) (C := RX5) (T := TX5) (N := 23) hx hb ht i_X5 hown hK hP 0 rfl rfl 15 (by decide) (ht _ wd_551) (fun _ h9 => h9) rfl dX5_goes_78 ?_
            refine lv_iload_n hx hb dX5_goes_81 rfl (lv_at hl 3 rfl) ?_
            obtain ⟨i13, h⟩ := ck_ok h
            refine va_iald hx hb hK hP 11 0 rfl rfl i13 dX5_goes_82 ?_
            refine lv_bipush (v := (32 : Int32)) hx hb dX5_goes_83 (by decide) ?_
            refine lv_icmp_ge (tgt := 109) hx hb dX5_goes_85 (by decide) (fun c14 => ?_) (fun c14 => ?_)
            · replace h := fp c14 h
              refine lv_aload_n hx hb dX5_goes_109 rfl (lv_at hl 2 rfl) ?_
              refine va_get (D := D) (ci := 5) (v := .ref (a 9)) (C := RX5) (T := TX5) (N := 23) hx hb ht i_X5 hown hK hP 0 rfl rfl 13 (by decide) (ht _ wd_549) (fun _ h9 => h9) rfl dX5_goes_110 ?_
              refine lv_bipush (v := (16 : Int32)) hx hb dX5_goes_113 (by decide) ?_
              refine lv_iload_n hx hb dX5_goes_115 rfl (lv_at hl 0 rfl) ?_
              refine lv_imul hx hb dX5_goes_116 ?_
              refine lv_iload_n hx hb dX5_goes_117 rfl (lv_at hl 3 rfl) ?_
              refine lv_bipush (v := (16 : Int32)) hx hb dX5_goes_118 (by decide) ?_
              refine lv_irem hx hb dX5_goes_120 (by decide) ?_
              refine lv_iadd hx hb dX5_goes_121 ?_
              refine lv_dup2_11 hx hb dX5_goes_122 rfl rfl ?_
              obtain ⟨i15, h⟩ := ck_ok h
              refine va_iald hx hb hK hP 9 0 rfl rfl i15 dX5_goes_123 ?_
              refine lv_iconst (v := (1 : Int32)) hx hb dX5_goes_124 (by decide) ?_
              refine lv_isub hx hb dX5_goes_125 ?_
              obtain ⟨i16, h⟩ := ck_ok h
              refine va_iast hx hb hK hP hD hS 9 0 rfl rfl i16 dX5_goes_126 (fun H locs hP hD hS => ?_)
              obtain ⟨M17, e18, h⟩ := sv_ok h
              have hP : va_P D classes (wX5 a cI cC cO M17) H := by rw [← e18]; exact hP
              have hD : va_D A (wX5 a cI cC cO M17) := by rw [← e18]; exact hD
              refine lv_iload_n hx hb dX5_goes_127 rfl (lv_at hl 1 rfl) ?_
              refine lv_istore_n (lv' := [(1, .int (M 9 y1.toNatClampNeg)), (3, .int ((M 10 y1.toNatClampNeg) - (M 10 y1.toNatClampNeg) / (16 : Int32) * (16 : Int32))), (2, .int (M 9 y1.toNatClampNeg)), (0, .ref (a 0))]) hx hb dX5_goes_128 rfl hl (by decide) rfl (fun ls hl => ?_)
              refine lv_goto (tgt := 5) hx hb dX5_goes_129 (by decide) ?_
              exact ih5 M17 (M 9 y1.toNatClampNeg) _ _ ls h hP hD hS (lv_sub hl [3, 0] rfl)
            · replace h := fn c14 h
              refine lv_aload_n hx hb dX5_goes_88 rfl (lv_at hl 2 rfl) ?_
              refine va_get (D := D) (ci := 5) (v := .ref (a 9)) (C := RX5) (T := TX5) (N := 23) hx hb ht i_X5 hown hK hP 0 rfl rfl 13 (by decide) (ht _ wd_549) (fun _ h9 => h9) rfl dX5_goes_89 ?_
              refine lv_bipush (v := (16 : Int32)) hx hb dX5_goes_92 (by decide) ?_
              refine lv_iload_n hx hb dX5_goes_94 rfl (lv_at hl 0 rfl) ?_
              refine lv_imul hx hb dX5_goes_95 ?_
              refine lv_iload_n hx hb dX5_goes_96 rfl (lv_at hl 1 rfl) ?_
              refine lv_bipush (v := (16 : Int32)) hx hb dX5_goes_97 (by decide) ?_
              refine lv_irem hx hb dX5_goes_99 (by decide) ?_
              refine lv_iadd hx hb dX5_goes_100 ?_
              refine lv_dup2_11 hx hb dX5_goes_101 rfl rfl ?_
              obtain ⟨i19, h⟩ := ck_ok h
              refine va_iald hx hb hK hP 9 0 rfl rfl i19 dX5_goes_102 ?_
              refine lv_iconst (v := (1 : Int32)) hx hb dX5_goes_103 (by decide) ?_
              refine lv_iadd hx hb dX5_goes_104 ?_
              obtain ⟨i20, h⟩ := ck_ok h
              refine va_iast hx hb hK hP hD hS 9 0 rfl rfl i20 dX5_goes_105 (fun H locs hP hD hS => ?_)
              obtain ⟨M21, e22, h⟩ := sv_ok h
              have hP : va_P D classes (wX5 a cI cC cO M21) H := by rw [← e22]; exact hP
              have hD : va_D A (wX5 a cI cC cO M21) := by rw [← e22]; exact hD
              refine lv_goto (tgt := 127) hx hb dX5_goes_106 (by decide) ?_
              refine lv_iload_n hx hb dX5_goes_127 rfl (lv_at hl 1 rfl) ?_
              refine lv_istore_n (lv' := [(1, .int (M 9 y1.toNatClampNeg)), (3, .int ((M 10 y1.toNatClampNeg) - (M 10 y1.toNatClampNeg) / (16 : Int32) * (16 : Int32))), (2, .int (M 9 y1.toNatClampNeg)), (0, .ref (a 0))]) hx hb dX5_goes_128 rfl hl (by decide) rfl (fun ls hl => ?_)
              refine lv_goto (tgt := 5) hx hb dX5_goes_129 (by decide) ?_
              exact ih5 M21 (M 9 y1.toNatClampNeg) _ _ ls h hP hD hS (lv_sub hl [3, 0] rfl)
          · replace h := fp c12 h
            refine lv_aload_n hx hb dX5_goes_64 rfl (lv_at hl 2 rfl) ?_
            refine va_get (D := D) (ci := 5) (v := .ref (a 8)) (C := RX5) (T := TX5) (N := 23) hx hb ht i_X5 hown hK hP 0 rfl rfl 12 (by decide) (ht _ wd_548) (fun _ h9 => h9) rfl dX5_goes_65 ?_
            refine lv_iload_n hx hb dX5_goes_68 rfl (lv_at hl 3 rfl) ?_
            refine lv_dup2_11 hx hb dX5_goes_69 rfl rfl ?_
            obtain ⟨i23, h⟩ := ck_ok h
            refine va_iald hx hb hK hP 8 0 rfl rfl i23 dX5_goes_70 ?_
            refine lv_iconst (v := (1 : Int32)) hx hb dX5_goes_71 (by decide) ?_
            refine lv_isub hx hb dX5_goes_72 ?_
            obtain ⟨i24, h⟩ := ck_ok h
            refine va_iast hx hb hK hP hD hS 8 0 rfl rfl i24 dX5_goes_73 (fun H locs hP hD hS => ?_)
            obtain ⟨M25, e26, h⟩ := sv_ok h
            have hP : va_P D classes (wX5 a cI cC cO M25) H := by rw [← e26]; exact hP
            have hD : va_D A (wX5 a cI cC cO M25) := by rw [← e26]; exact hD
            refine lv_goto (tgt := 127) hx hb dX5_goes_74 (by decide) ?_
            refine lv_iload_n hx hb dX5_goes_127 rfl (lv_at hl 1 rfl) ?_
            refine lv_istore_n (lv' := [(1, .int (M 9 y1.toNatClampNeg)), (3, .int ((M 10 y1.toNatClampNeg) - (M 10 y1.toNatClampNeg) / (16 : Int32) * (16 : Int32))), (2, .int (M 9 y1.toNatClampNeg)), (0, .ref (a 0))]) hx hb dX5_goes_128 rfl hl (by decide) rfl (fun ls hl => ?_)
            refine lv_goto (tgt := 5) hx hb dX5_goes_129 (by decide) ?_
            exact ih5 M25 (M 9 y1.toNatClampNeg) _ _ ls h hP hD hS (lv_sub hl [3, 0] rfl)
        · replace h := fp c10 h
          refine lv_aload_n hx hb dX5_goes_41 rfl (lv_at hl 2 rfl) ?_
          refine va_get (D := D) (ci := 5) (v := .ref (a 8)) (C := RX5) (T := TX5) (N := 23) hx hb ht i_X5 hown hK hP 0 rfl rfl 12 (by decide) (ht _ wd_548) (fun _ h9 => h9) rfl dX5_goes_42 ?_
          refine lv_iload_n hx hb dX5_goes_45 rfl (lv_at hl 1 rfl) ?_
          refine lv_dup2_11 hx hb dX5_goes_46 rfl rfl ?_
          obtain ⟨i27, h⟩ := ck_ok h
          refine va_iald hx hb hK hP 8 0 rfl rfl i27 dX5_goes_47 ?_
          refine lv_iconst (v := (1 : Int32)) hx hb dX5_goes_48 (by decide) ?_
          refine lv_iadd hx hb dX5_goes_49 ?_
          obtain ⟨i28, h⟩ := ck_ok h
          refine va_iast hx hb hK hP hD hS 8 0 rfl rfl i28 dX5_goes_50 (fun H locs hP hD hS => ?_)
          obtain ⟨M29, e30, h⟩ := sv_ok h
          have hP : va_P D classes (wX5 a cI cC cO M29) H := by rw [← e30]; exact hP
          have hD : va_D A (wX5 a cI cC cO M29) := by rw [← e30]; exact hD
          refine lv_goto (tgt := 127) hx hb dX5_goes_51 (by decide) ?_
          refine lv_iload_n hx hb dX5_goes_127 rfl (lv_at hl 1 rfl) ?_
          refine lv_istore_n (lv' := [(1, .int (M 9 y1.toNatClampNeg)), (3, .int ((M 10 y1.toNatClampNeg) - (M 10 y1.toNatClampNeg) / (16 : Int32) * (16 : Int32))), (2, .int (M 9 y1.toNatClampNeg)), (0, .ref (a 0))]) hx hb dX5_goes_128 rfl hl (by decide) rfl (fun ls hl => ?_)
          refine lv_goto (tgt := 5) hx hb dX5_goes_129 (by decide) ?_
          exact ih5 M29 (M 9 y1.toNatClampNeg) _ _ ls h hP hD hS (lv_sub hl [3, 0] rfl)
  unfold F_X5_goes at h
  refine lv_aload_n hx hb dX5_goes_0 rfl (lv_at hl 0 rfl) ?_
  refine va_get (D := D) (ci := 5) (v := .int (M 12 5)) (C := RX5) (T := TX5) (N := 23) hx hb ht i_X5 hown hK hP 0 rfl rfl 17 (by decide) (ht _ wd_553) (fun _ h9 => h9) rfl dX5_goes_1 ?_
  refine lv_istore_n (lv' := [(1, .int (M 12 5)), (0, .ref (a 0))]) hx hb dX5_goes_4 rfl hl (by decide) rfl (fun ls hl => ?_)
  exact w5 FU M (M 12 5) _ _ ls h hP hD hS (lv_sub hl [1, 0] rfl)
