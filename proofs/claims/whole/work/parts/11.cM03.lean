theorem dX5_comes_0 : decode cX5_comes 0 = .ok (.aload_n 0, 1) := by decide +kernel
theorem dX5_comes_1 : decode cX5_comes 1 = .ok (.iload_n 1, 1) := by decide +kernel
theorem dX5_comes_2 : decode cX5_comes 2 = .ok (.putfield 112, 3) := by decide +kernel
theorem dX5_comes_5 : decode cX5_comes 5 = .ok (.iconst 0, 1) := by decide +kernel
theorem dX5_comes_6 : decode cX5_comes 6 = .ok (.istore_n 2, 1) := by decide +kernel
theorem dX5_comes_7 : decode cX5_comes 7 = .ok (.iload_n 2, 1) := by decide +kernel
theorem dX5_comes_8 : decode cX5_comes 8 = .ok (.bipush 6, 2) := by decide +kernel
theorem dX5_comes_10 : decode cX5_comes 10 = .ok (.if_icmp .ge 16, 3) := by decide +kernel
theorem dX5_comes_13 : decode cX5_comes 13 = .ok (.aload_n 0, 1) := by decide +kernel
theorem dX5_comes_14 : decode cX5_comes 14 = .ok (.getfield 29, 3) := by decide +kernel
theorem dX5_comes_17 : decode cX5_comes 17 = .ok (.iload_n 2, 1) := by decide +kernel
theorem dX5_comes_18 : decode cX5_comes 18 = .ok (.iconst 0, 1) := by decide +kernel
theorem dX5_comes_19 : decode cX5_comes 19 = .ok (.iastore, 1) := by decide +kernel
theorem dX5_comes_20 : decode cX5_comes 20 = .ok (.iinc 2 1, 3) := by decide +kernel
theorem dX5_comes_23 : decode cX5_comes 23 = .ok (.goto (-16), 3) := by decide +kernel
theorem dX5_comes_26 : decode cX5_comes 26 = .ok (.iconst 0, 1) := by decide +kernel
theorem dX5_comes_27 : decode cX5_comes 27 = .ok (.istore_n 2, 1) := by decide +kernel
theorem dX5_comes_28 : decode cX5_comes 28 = .ok (.iload_n 2, 1) := by decide +kernel
theorem dX5_comes_29 : decode cX5_comes 29 = .ok (.bipush 96, 2) := by decide +kernel
theorem dX5_comes_31 : decode cX5_comes 31 = .ok (.if_icmp .ge 16, 3) := by decide +kernel
theorem dX5_comes_34 : decode cX5_comes 34 = .ok (.aload_n 0, 1) := by decide +kernel
theorem dX5_comes_35 : decode cX5_comes 35 = .ok (.getfield 32, 3) := by decide +kernel
theorem dX5_comes_38 : decode cX5_comes 38 = .ok (.iload_n 2, 1) := by decide +kernel
theorem dX5_comes_39 : decode cX5_comes 39 = .ok (.iconst 0, 1) := by decide +kernel
theorem dX5_comes_40 : decode cX5_comes 40 = .ok (.iastore, 1) := by decide +kernel
theorem dX5_comes_41 : decode cX5_comes 41 = .ok (.iinc 2 1, 3) := by decide +kernel
theorem dX5_comes_44 : decode cX5_comes 44 = .ok (.goto (-16), 3) := by decide +kernel
theorem dX5_comes_47 : decode cX5_comes 47 = .ok (.iconst 0, 1) := by decide +kernel
theorem dX5_comes_48 : decode cX5_comes 48 = .ok (.istore_n 2, 1) := by decide +kernel
theorem dX5_comes_49 : decode cX5_comes 49 = .ok (.iload_n 2, 1) := by decide +kernel
theorem dX5_comes_50 : decode cX5_comes 50 = .ok (.sipush 160, 3) := by decide +kernel
theorem dX5_comes_53 : decode cX5_comes 53 = .ok (.if_icmp .ge 16, 3) := by decide +kernel
theorem dX5_comes_56 : decode cX5_comes 56 = .ok (.aload_n 0, 1) := by decide +kernel
theorem dX5_comes_57 : decode cX5_comes 57 = .ok (.getfield 35, 3) := by decide +kernel
theorem dX5_comes_60 : decode cX5_comes 60 = .ok (.iload_n 2, 1) := by decide +kernel
theorem dX5_comes_61 : decode cX5_comes 61 = .ok (.iconst 0, 1) := by decide +kernel
theorem dX5_comes_62 : decode cX5_comes 62 = .ok (.iastore, 1) := by decide +kernel
theorem dX5_comes_63 : decode cX5_comes 63 = .ok (.iinc 2 1, 3) := by decide +kernel
theorem dX5_comes_66 : decode cX5_comes 66 = .ok (.goto (-17), 3) := by decide +kernel
theorem dX5_comes_69 : decode cX5_comes 69 = .ok (.iconst 0, 1) := by decide +kernel
theorem dX5_comes_70 : decode cX5_comes 70 = .ok (.istore_n 2, 1) := by decide +kernel
theorem dX5_comes_71 : decode cX5_comes 71 = .ok (.aload_n 0, 1) := by decide +kernel
theorem dX5_comes_72 : decode cX5_comes 72 = .ok (.invokevirtual 136, 3) := by decide +kernel
theorem dX5_comes_75 : decode cX5_comes 75 = .ok (.ifCond .eq 13, 3) := by decide +kernel
theorem dX5_comes_78 : decode cX5_comes 78 = .ok (.aload_n 0, 1) := by decide +kernel
theorem dX5_comes_79 : decode cX5_comes 79 = .ok (.invokevirtual 140, 3) := by decide +kernel
theorem dX5_comes_82 : decode cX5_comes 82 = .ok (.iinc 2 1, 3) := by decide +kernel
theorem dX5_comes_85 : decode cX5_comes 85 = .ok (.goto (-14), 3) := by decide +kernel
theorem dX5_comes_88 : decode cX5_comes 88 = .ok (.iload_n 2, 1) := by decide +kernel
theorem dX5_comes_89 : decode cX5_comes 89 = .ok (.ireturn, 1) := by decide +kernel
set_option maxHeartbeats 4000000 in
set_option maxRecDepth 100000 in
theorem c_X5_comes (l : Launch) (D : va_G) (cI cC cO : ClassId) (a : Nat → Nat) (M : Mm) (x1 : Int32) (res : Int32 × Mm) (sz : Nat) (h : F_X5_comes M x1 = some res) : Met l yX5_comes (Cond.code yX5_comes cX5_comes 3 (Option.some Jvm.ClassFile.FieldType.int) :: lw_g) ({ frames := 4, cells := 0, slots := 0, locals := 92 } : Room) (va_Pc [.ref (a 0), .int x1] (pS D cI cC cO sz (wX5 a cI cC cO M))) (QI D cI cC cO (va_A (wX5 a cI cC cO M) sz) (wX5 a cI cC cO res.2) res.1) 0 0 (va_A (wX5 a cI cC cO M) sz) := by
  refine Met.ofW (cc := cX5_comes) (maxL := 3) (ret := (Option.some Jvm.ClassFile.FieldType.int)) (by decide) rfl ?_
  intro p e s m args below meth c s₁ B hml hv
  obtain ⟨rfl, rfl, hP, hK, hD0, hN⟩ := hv
  have hx := B.exec
  have hb := B.bytes
  have hr := B.returns
  have ht : ∀ w ∈ lw_g, w.before ([.ref (a 0), .int x1] : List Value).toArray s = true := fun w hw => atoms_spec (ws := Cond.code yX5_comes cX5_comes 3 (Option.some Jvm.ClassFile.FieldType.int) :: lw_g) B.pre w (List.mem_cons_of_mem _ hw)
  have hown : s.vm.findClass RX5 = some m.cls := findClass_of_methodNamed B.named
  have hlocks := B.notSynchronized
  have hD := hD0.self (sz := s.heap.size)
  generalize hAe : va_A (wX5 a cI cC cO M) s.heap.size = A at hD ⊢
  have hA : ∀ q : Nat, s.heap.size ≤ q → A q := fun q hq => by rw [← hAe]; exact Or.inr hq
  have hS : va_S A s.heap s.heap [] := va_S.rf
  have hl := lv_entry ([.ref (a 0), .int x1]) (n := 3) (Nat.le_of_ble_eq_true rfl)
  rw [lg_entry_eq]
  generalize (lg_sl ([.ref (a 0), .int x1]) ++ List.replicate (3 - (lg_sl ([.ref (a 0), .int x1])).length) Slot.unset).toArray = ls at hl ⊢
  have hl : lv_has ls 3 [(0, .ref (a 0)), (1, .int x1)] := hl
  have w71 : ∀ (n71 : Nat) (M : Mm) (y2 : Int32) (H : Heap) (locs : List Loc) (ls : Array Slot), F_X5_comes_71 n71 M y2 = some res → va_P D classes (wX5 a cI cC cO M) H → va_D A (wX5 a cI cC cO M) → va_S A s.heap H locs → lv_has ls 3 [(0, .ref (a 0)), (2, .int y2)] → W p l e ({ frames := 4, cells := 0, slots := 0, locals := 92 } : Room) s m ([.ref (a 0), .int x1] : List Value).toArray below meth c H locs 0 0 (MQ below (QI D cI cC cO A (wX5 a cI cC cO res.2) res.1) ([.ref (a 0), .int x1] : List Value).toArray s 0 0 A) (F0 m 71 ls []) := by
    intro n71
    induction n71 with
    | zero => intro M y2 H locs ls h hP hD hS hl; exact absurd (show (none : Option (Int32 × Mm)) = some res from h) (by simp)
    | succ n71 ih71 =>
      intro M y2 H locs ls h hP hD hS hl
      have h : F_X5_comesB_71 (F_X5_comes_71 n71) M y2 = some res := h
      unfold F_X5_comesB_71 at h
      refine lv_aload_n hx hb dX5_comes_71 rfl (lv_at hl 0 rfl) ?_
      obtain ⟨u1, M2, e3, h⟩ := b2_ok h
      refine cl_Vi (ws' := (wX5 a cI cC cO M2)) ⟨hx, hb, hml, hown, ht⟩ (c_X5_finds l D cI cC cO a M _ _ e3) (cwv 0 ht wd_703 wd_6 wd_700 wd_702 ws_32 (by decide +kernel) rfl rfl ⟨Nat.le_of_ble_eq_true rfl, Nat.le_of_ble_eq_true rfl⟩) 5 0 rfl rfl rfl hK hP hD hS hA hN [0, 1, 2, 3, 4, 5, 6, 7, 8, 9, 10, 11, 12] [] [0, 1, 2, 3, 4, 5, 6, 7, 8, 9, 10, 11, 12] (by decide) rfl rfl (by decide) (by decide) rfl (by decide) rfl hl.1 rfl (Nat.le_of_ble_eq_true rfl) dX5_comes_72 ⟨Nat.le_of_ble_eq_true rfl, Nat.le_of_ble_eq_true rfl⟩ (fun H locs hP hD hS => ?_)
      refine lv_if_eq (tgt := 88) hx hb dX5_comes_75 (by decide) (fun c4 => ?_) (fun c4 => ?_)
      · replace h := fp c4 h
        refine lv_iload_n hx hb dX5_comes_88 rfl (lv_at hl 1 rfl) ?_
        cases h
        exact rt_i hx hb hr hlocks hS hP hK hD dX5_comes_89
      · replace h := fn c4 h
        refine lv_aload_n hx hb dX5_comes_78 rfl (lv_at hl 0 rfl) ?_
        obtain ⟨M5, e6, h⟩ := b1_ok h
        refine cl_Vv (ws' := (wX5 a cI cC cO M5)) ⟨hx, hb, hml, hown, ht⟩ (c_X5_goes l D cI cC cO a M2 _ _ e6) (cwv 0 ht wd_728 wd_6 wd_725 wd_727 ws_38 (by decide +kernel) rfl rfl ⟨Nat.le_of_ble_eq_true rfl, Nat.le_of_ble_eq_true rfl⟩) 5 0 rfl rfl rfl hK hP hD hS hA hN [0, 1, 2, 3, 4, 5, 6, 7, 8, 9, 10, 11, 12] [] [0, 1, 2, 3, 4, 5, 6, 7, 8, 9, 10, 11, 12] (by decide) rfl rfl (by decide) (by decide) rfl (by decide) rfl hl.1 rfl (Nat.le_of_ble_eq_true rfl) dX5_comes_79 ⟨Nat.le_of_ble_eq_true rfl, Nat.le_of_ble_eq_true rfl⟩ (fun H locs hP hD hS => ?_)
        refine lv_iinc (v := (y2 + 1)) (lv' := [(2, .int (y2 + 1)), (0, .ref (a 0))]) hx hb dX5_comes_82 hl (k := 1) rfl rfl (by decide) rfl (fun ls hl => ?_)
        refine lv_goto (tgt := 71) hx hb dX5_comes_85 (by decide) ?_
        exact ih71 M5 (y2 + 1) _ _ ls h hP hD hS (lv_sub hl [1, 0] rfl)
  have w49 : ∀ (n49 : Nat) (M : Mm) (y2 : Int32) (H : Heap) (locs : List Loc) (ls : Array Slot), F_X5_comes_49 n49 M y2 = some res → va_P D classes (wX5 a cI cC cO M) H → va_D A (wX5 a cI cC cO M) → va_S A s.heap H locs → lv_has ls 3 [(0, .ref (a 0)), (2, .int y2)] → W p l e ({ frames := 4, cells := 0, slots := 0, locals := 92 } : Room) s m ([.ref (a 0), .int x1] : List Value).toArray below meth c H locs 0 0 (MQ below (QI D cI cC cO A (wX5 a cI cC cO res.2) res.1) ([.ref (a 0), .int x1] : List Value).toArray s 0 0 A) (F0 m 49 ls []) := by
    intro n49
    induction n49 with
    | zero => intro M y2 H locs ls h hP hD hS hl; exact absurd (show (none : Option (Int32 × Mm)) = some res from h) (by simp)
    | succ n49 ih49 =>
      intro M y2 H locs ls h hP hD hS hl
      have h : F_X5_comesB_49 (F_X5_comes_49 n49) M y2 = some res := h
      unfold F_X5_comesB_49 at h
      refine lv_iload_n hx hb dX5_comes_49 rfl (lv_at hl 1 rfl) ?_
      refine lv_sipush (v := (160 : Int32)) hx hb dX5_comes_50 (by decide) ?_
      refine lv_icmp_ge (tgt := 69) hx hb dX5_comes_53 (by decide) (fun c1 => ?_) (fun c1 => ?_)
      · replace h := fp c1 h
        refine lv_iconst (v := (0 : Int32)) hx hb dX5_comes_69 (by decide) ?_
        refine lv_istore_n (lv' := [(2, .int (0 : Int32)), (0, .ref (a 0))]) hx hb dX5_comes_70 rfl hl (by decide) rfl (fun ls hl => ?_)
        exact w71 FU M (0 : Int32) _ _ ls h hP hD hS (lv_sub hl [1, 0] rfl)
      · replace h := fn c1 h
        refine lv_aload_n hx hb dX5_comes_56 rfl (lv_at hl 0 rfl) ?_
        refine va_get (D := D) (ci := 5) (v := .ref (a 9)) (C := RX5) (T := TX5) (N := 23) hx hb ht i_X5 hown hK hP 0 rfl rfl 13 (by decide) (ht _ wd_549) (fun _ h9 => h9) rfl dX5_comes_57 ?_
        refine lv_iload_n hx hb dX5_comes_60 rfl (lv_at hl 1 rfl) ?_
        refine lv_iconst (v := (0 : Int32)) hx hb dX5_comes_61 (by decide) ?_
        obtain ⟨i2, h⟩ := ck_ok h
        refine va_iast hx hb hK hP hD hS 9 0 rfl rfl i2 dX5_comes_62 (fun H locs hP hD hS => ?_)
        obtain ⟨M3, e4, h⟩ := sv_ok h
        have hP : va_P D classes (wX5 a cI cC cO M3) H := by rw [← e4]; exact hP
        have hD : va_D A (wX5 a cI cC cO M3) := by rw [← e4]; exact hD
        refine lv_iinc (v := (y2 + 1)) (lv' := [(2, .int (y2 + 1)), (0, .ref (a 0))]) hx hb dX5_comes_63 hl (k := 1) rfl rfl (by decide) rfl (fun ls hl => ?_)
        refine lv_goto (tgt := 49) hx hb dX5_comes_66 (by decide) ?_
        exact ih49 M3 (y2 + 1) _ _ ls h hP hD hS (lv_sub hl [1, 0] rfl)
  have w28 : ∀ (n28 : Nat) (M : Mm) (y2 : Int32) (H : Heap) (locs : List Loc) (ls : Array Slot), F_X5_comes_28 n28 M y2 = some res → va_P D classes (wX5 a cI cC cO M) H → va_D A (wX5 a cI cC cO M) → va_S A s.heap H locs → lv_has ls 3 [(0, .ref (a 0)), (2, .int y2)] → W p l e ({ frames := 4, cells := 0, slots := 0, locals := 92 } : Room) s m ([.ref (a 0), .int x1] : List Value).toArray below meth c H locs 0 0 (MQ below (QI D cI cC cO A (wX5 a cI cC cO res.2) res.1) ([.ref (a 0), .int x1] : List Value).toArray s 0 0 A) (F0 m 28 ls []) := by
    intro n28
    induction n28 with
    | zero => intro M y2 H locs ls h hP hD hS hl; exact absurd (show (none : Option (Int32 × Mm)) = some res from h) (by simp)
    | succ n28 ih28 =>
      intro M y2 H locs ls h hP hD hS hl
      have h : F_X5_comesB_28 (F_X5_comes_28 n28) M y2 = some res := h
      unfold F_X5_comesB_28 at h
      refine lv_iload_n hx hb dX5_comes_28 rfl (lv_at hl 1 rfl) ?_
      refine lv_bipush (v := (96 : Int32)) hx hb dX5_comes_29 (by decide) ?_
      refine lv_icmp_ge (tgt := 47) hx hb dX5_comes_31 (by decide) (fun c1 => ?_) (fun c1 => ?_)
      · replace h := fp c1 h
        refine lv_iconst (v := (0 : Int32)) hx hb dX5_comes_47 (by decide) ?_
        refine lv_istore_n (lv' := [(2, .int (0 : Int32)), (0, .ref (a 0))]) hx hb dX5_comes_48 rfl hl (by decide) rfl (fun ls hl => ?_)
        exact w49 FU M (0 : Int32) _ _ ls h hP hD hS (lv_sub hl [1, 0] rfl)
      · replace h := fn c1 h
        refine lv_aload_n hx hb dX5_comes_34 rfl (lv_at hl 0 rfl) ?_
        refine va_get (D := D) (ci := 5) (v := .ref (a 8)) (C := RX5) (T := TX5) (N := 23) hx hb ht i_X5 hown hK hP 0 rfl rfl 12 (by decide) (ht _ wd_548) (fun _ h9 => h9) rfl dX5_comes_35 ?_
        refine lv_iload_n hx hb dX5_comes_38 rfl (lv_at hl 1 rfl) ?_
        refine lv_iconst (v := (0 : Int32)) hx hb dX5_comes_39 (by decide) ?_
        obtain ⟨i2, h⟩ := ck_ok h
        refine va_iast hx hb hK hP hD hS 8 0 rfl rfl i2 dX5_comes_40 (fun H locs hP hD hS => ?_)
        obtain ⟨M3, e4, h⟩ := sv_ok h
        have hP : va_P D classes (wX5 a cI cC cO M3) H := by rw [← e4]; exact hP
        have hD : va_D A (wX5 a cI cC cO M3) := by rw [← e4]; exact hD
        refine lv_iinc (v := (y2 + 1)) (lv' := [(2, .int (y2 + 1)), (0, .ref (a 0))]) hx hb dX5_comes_41 hl (k := 1) rfl rfl (by decide) rfl (fun ls hl => ?_)
        refine lv_goto (tgt := 28) hx hb dX5_comes_44 (by decide) ?_
        exact ih28 M3 (y2 + 1) _ _ ls h hP hD hS (lv_sub hl [1, 0] rfl)
  have w7 : ∀ (n7 : Nat) (M : Mm) (y2 : Int32) (H : Heap) (locs : List Loc) (ls : Array Slot), F_X5_comes_7 n7 M y2 = some res → va_P D classes (wX5 a cI cC cO M) H → va_D A (wX5 a cI cC cO M) → va_S A s.heap H locs → lv_has ls 3 [(0, .ref (a 0)), (2, .int y2)] → W p l e ({ frames := 4, cells := 0, slots := 0, locals := 92 } : Room) s m ([.ref (a 0), .int x1] : List Value).toArray below meth c H locs 0 0 (MQ below (QI D cI cC cO A (wX5 a cI cC cO res.2) res.1) ([.ref (a 0), .int x1] : List Value).toArray s 0 0 A) (F0 m 7 ls []) := by
    intro n7
    induction n7 with
    | zero => intro M y2 H locs ls h hP hD hS hl; exact absurd (show (none : Option (Int32 × Mm)) = some res from h) (by simp)
    | succ n7 ih7 =>
      intro M y2 H locs ls h hP hD hS hl
      have h : F_X5_comesB_7 (F_X5_comes_7 n7) M y2 = some res := h
      unfold F_X5_comesB_7 at h
      refine lv_iload_n hx hb dX5_comes_7 rfl (lv_at hl 1 rfl) ?_
      refine lv_bipush (v := (6 : Int32)) hx hb dX5_comes_8 (by decide) ?_
      refine lv_icmp_ge (tgt := 26) hx hb dX5_comes_10 (by decide) (fun c1 => ?_) (fun c1 => ?_)
      · replace h := fp c1 h
        refine lv_iconst (v := (0 : Int32)) hx hb dX5_comes_26 (by decide) ?_
        refine lv_istore_n (lv' := [(2, .int (0 : Int32)), (0, .ref (a 0))]) hx hb dX5_comes_27 rfl hl (by decide) rfl (fun ls hl => ?_)
        exact w28 FU M (0 : Int32) _ _ ls h hP hD hS (lv_sub hl [1, 0] rfl)
      · replace h := fn c1 h
        refine lv_aload_n hx hb dX5_comes_13 rfl (lv_at hl 0 rfl) ?_
        refine va_get (D := D) (ci := 5) (v := .ref (a 7)) (C := RX5) (T := TX5) (N := 23) hx hb ht i_X5 hown hK hP 0 rfl rfl 11 (by decide) (ht _ wd_547) (fun _ h9 => h9) rfl dX5_comes_14 ?_
        refine lv_iload_n hx hb dX5_comes_17 rfl (lv_at hl 1 rfl) ?_
        refine lv_iconst (v := (0 : Int32)) hx hb dX5_comes_18 (by decide) ?_
        obtain ⟨i2, h⟩ := ck_ok h
        refine va_iast hx hb hK hP hD hS 7 0 rfl rfl i2 dX5_comes_19 (fun H locs hP hD hS => ?_)
        obtain ⟨M3, e4, h⟩ := sv_ok h
        have hP : va_P D classes (wX5 a cI cC cO M3) H := by rw [← e4]; exact hP
        have hD : va_D A (wX5 a cI cC cO M3) := by rw [← e4]; exact hD
        refine lv_iinc (v := (y2 + 1)) (lv' := [(2, .int (y2 + 1)), (0, .ref (a 0))]) hx hb dX5_comes_20 hl (k := 1) rfl rfl (by decide) rfl (fun ls hl => ?_)
        refine lv_goto (tgt := 7) hx hb dX5_comes_23 (by decide) ?_
        exact ih7 M3 (y2 + 1) _ _ ls h hP hD hS (lv_sub hl [1, 0] rfl)
  unfold F_X5_comes at h
  refine lv_aload_n hx hb dX5_comes_0 rfl (lv_at hl 0 rfl) ?_
  refine lv_iload_n hx hb dX5_comes_1 rfl (lv_at hl 1 rfl) ?_
  refine va_put (D := D) (ci := 5) (v := .int x1) (ty := .int) (C := RX5) (T := TX5) (N := 23) hx hb ht i_X5 tyX5 tyX5_ok nmX5 hown hK hP hD hS 0 rfl rfl 17 (by decide) (ht _ wd_553) (fun _ h9 => h9) rfl (by decide +kernel) rfl rfl (Nat.le_of_ble_eq_true rfl) dX5_comes_2 (fun H locs hP hD hS => ?_)
  obtain ⟨M1, e2, h⟩ := sv_ok h
  have hP : va_P D classes (wX5 a cI cC cO M1) H := by rw [← e2]; exact hP
  have hD : va_D A (wX5 a cI cC cO M1) := by rw [← e2]; exact hD
  refine lv_iconst (v := (0 : Int32)) hx hb dX5_comes_5 (by decide) ?_
  refine lv_istore_n (lv' := [(2, .int (0 : Int32)), (0, .ref (a 0)), (1, .int x1)]) hx hb dX5_comes_6 rfl hl (by decide) rfl (fun ls hl => ?_)
  exact w7 FU M1 (0 : Int32) _ _ ls h hP hD hS (lv_sub hl [1, 0] rfl)
theorem dX5_come_0 : decode cX5_come 0 = .ok (.iload_n 1, 1) := by decide +kernel
theorem dX5_come_1 : decode cX5_come 1 = .ok (.iconst 0, 1) := by decide +kernel
theorem dX5_come_2 : decode cX5_come 2 = .ok (.bipush 15, 2) := by decide +kernel
theorem dX5_come_4 : decode cX5_come 4 = .ok (.invokestatic 63, 3) := by decide +kernel
theorem dX5_come_7 : decode cX5_come 7 = .ok (.ifCond .eq 11, 3) := by decide +kernel
theorem dX5_come_10 : decode cX5_come 10 = .ok (.aload_n 0, 1) := by decide +kernel
theorem dX5_come_11 : decode cX5_come 11 = .ok (.iload_n 1, 1) := by decide +kernel
theorem dX5_come_12 : decode cX5_come 12 = .ok (.invokevirtual 143, 3) := by decide +kernel
theorem dX5_come_15 : decode cX5_come 15 = .ok (.goto 5, 3) := by decide +kernel
theorem dX5_come_18 : decode cX5_come 18 = .ok (.ldc 67, 2) := by decide +kernel
theorem dX5_come_20 : decode cX5_come 20 = .ok (.ireturn, 1) := by decide +kernel
set_option maxHeartbeats 4000000 in
set_option maxRecDepth 100000 in
theorem c_X5_come (l : Launch) (D : va_G) (cI cC cO : ClassId) (a : Nat → Nat) (M : Mm) (x1 : Int32) (res : Int32 × Mm) (sz : Nat) (h : F_X5_come M x1 = some res) : Met l yX5_come (Cond.code yX5_come cX5_come 2 (Option.some Jvm.ClassFile.FieldType.int) :: lw_g) ({ frames := 5, cells := 0, slots := 0, locals := 114 } : Room) (va_Pc [.ref (a 0), .int x1] (pS D cI cC cO sz (wX5 a cI cC cO M))) (QI D cI cC cO (va_A (wX5 a cI cC cO M) sz) (wX5 a cI cC cO res.2) res.1) 0 0 (va_A (wX5 a cI cC cO M) sz) := by
  refine Met.ofW (cc := cX5_come) (maxL := 2) (ret := (Option.some Jvm.ClassFile.FieldType.int)) (by decide) rfl ?_
  intro p e s m args below meth c s₁ B hml hv
  obtain ⟨rfl, rfl, hP, hK, hD0, hN⟩ := hv
  have hx := B.exec
  have hb := B.bytes
  have hr := B.returns
  have ht : ∀ w ∈ lw_g, w.before ([.ref (a 0), .int x1] : List Value).toArray s = true := fun w hw => atoms_spec (ws := Cond.code yX5_come cX5_come 2 (Option.some Jvm.ClassFile.FieldType.int) :: lw_g) B.pre w (List.mem_cons_of_mem _ hw)
  have hown : s.vm.findClass RX5 = some m.cls := findClass_of_methodNamed B.named
  have hlocks := B.notSynchronized
  have hD := hD0.self (sz := s.heap.size)
  generalize hAe : va_A (wX5 a cI cC cO M) s.heap.size = A at hD ⊢
  have hA : ∀ q : Nat, s.heap.size ≤ q → A q := fun q hq => by rw [← hAe]; exact Or.inr hq
  have hS : va_S A s.heap s.heap [] := va_S.rf
  have hl := lv_entry ([.ref (a 0), .int x1]) (n := 2) (Nat.le_of_ble_eq_true rfl)
  rw [lg_entry_eq]
  generalize (lg_sl ([.ref (a 0), .int x1]) ++ List.replicate (2 - (lg_sl ([.ref (a 0), .int x1])).length) Slot.unset).toArray = ls at hl ⊢
  have hl : lv_has ls 2 [(0, .ref (a 0)), (1, .int x1)] := hl
  unfold F_X5_come at h
  refine lv_iload_n hx hb dX5_come_0 rfl (lv_at hl 1 rfl) ?_
  refine lv_iconst (v := (0 : Int32)) hx hb dX5_come_1 (by decide) ?_
  refine lv_bipush (v := (15 : Int32)) hx hb dX5_come_2 (by decide) ?_
  obtain ⟨u1, e2, h⟩ := b1_ok h
  refine cl_Si (ws' := (wX5 a cI cC cO M)) ⟨hx, hb, hml, hown, ht⟩ (c_X5_in l D cI cC cO x1 (0 : Int32) (15 : Int32) _ _ e2) (cwst 3 ht wd_612 wd_6 wd_610 wd_611 (by decide +kernel) rfl rfl ⟨Nat.le_of_ble_eq_true rfl, Nat.le_of_ble_eq_true rfl⟩) hK hP hD hS hA hN [] [0, 1, 2, 3, 4, 5, 6, 7, 8, 9, 10, 11, 12] [0, 1, 2, 3, 4, 5, 6, 7, 8, 9, 10, 11, 12] (by decide) rfl rfl (by decide) (by decide) rfl (by decide) rfl hl.1 rfl (Nat.le_of_ble_eq_true rfl) dX5_come_4 ⟨Nat.le_of_ble_eq_true rfl, Nat.le_of_ble_eq_true rfl⟩ (fun H locs hP hD hS => ?_)
  refine lv_if_eq (tgt := 18) hx hb dX5_come_7 (by decide) (fun c3 => ?_) (fun c3 => ?_)
  · replace h := fp c3 h
    refine lv_ldc hx hb hown (ht _ wd_613) dX5_come_18 ?_
    cases h
    exact rt_i hx hb hr hlocks hS hP hK hD dX5_come_20
  · replace h := fn c3 h
    refine lv_aload_n hx hb dX5_come_10 rfl (lv_at hl 0 rfl) ?_
    refine lv_iload_n hx hb dX5_come_11 rfl (lv_at hl 1 rfl) ?_
    obtain ⟨u4, M5, e6, h⟩ := b2_ok h
    refine cl_Vi (ws' := (wX5 a cI cC cO M5)) ⟨hx, hb, hml, hown, ht⟩ (c_X5_comes l D cI cC cO a M x1 _ _ e6) (cwv 1 ht wd_699 wd_6 wd_696 wd_698 ws_31 (by decide +kernel) rfl rfl ⟨Nat.le_of_ble_eq_true rfl, Nat.le_of_ble_eq_true rfl⟩) 5 0 rfl rfl rfl hK hP hD hS hA hN [0, 1, 2, 3, 4, 5, 6, 7, 8, 9, 10, 11, 12] [] [0, 1, 2, 3, 4, 5, 6, 7, 8, 9, 10, 11, 12] (by decide) rfl rfl (by decide) (by decide) rfl (by decide) rfl hl.1 rfl (Nat.le_of_ble_eq_true rfl) dX5_come_12 ⟨Nat.le_of_ble_eq_true rfl, Nat.le_of_ble_eq_true rfl⟩ (fun H locs hP hD hS => ?_)
    refine lv_goto (tgt := 20) hx hb dX5_come_15 (by decide) ?_
    cases h
    exact rt_i hx hb hr hlocks hS hP hK hD dX5_come_20
theorem dX5_all_0 : decode cX5_all 0 = .ok (.iconst 0, 1) := by decide +kernel
theorem dX5_all_1 : decode cX5_all 1 = .ok (.istore_n 1, 1) := by decide +kernel
theorem dX5_all_2 : decode cX5_all 2 = .ok (.iconst 0, 1) := by decide +kernel
theorem dX5_all_3 : decode cX5_all 3 = .ok (.istore_n 2, 1) := by decide +kernel
theorem dX5_all_4 : decode cX5_all 4 = .ok (.iload_n 2, 1) := by decide +kernel
theorem dX5_all_5 : decode cX5_all 5 = .ok (.aload_n 0, 1) := by decide +kernel
theorem dX5_all_6 : decode cX5_all 6 = .ok (.getfield 7, 3) := by decide +kernel
theorem dX5_all_9 : decode cX5_all 9 = .ok (.iconst 0, 1) := by decide +kernel
theorem dX5_all_10 : decode cX5_all 10 = .ok (.iaload, 1) := by decide +kernel
theorem dX5_all_11 : decode cX5_all 11 = .ok (.if_icmp .ge 22, 3) := by decide +kernel
theorem dX5_all_14 : decode cX5_all 14 = .ok (.iload_n 1, 1) := by decide +kernel
theorem dX5_all_15 : decode cX5_all 15 = .ok (.aload_n 0, 1) := by decide +kernel
theorem dX5_all_16 : decode cX5_all 16 = .ok (.getfield 7, 3) := by decide +kernel
theorem dX5_all_19 : decode cX5_all 19 = .ok (.iconst 2, 1) := by decide +kernel
theorem dX5_all_20 : decode cX5_all 20 = .ok (.iconst 2, 1) := by decide +kernel
theorem dX5_all_21 : decode cX5_all 21 = .ok (.iload_n 2, 1) := by decide +kernel
theorem dX5_all_22 : decode cX5_all 22 = .ok (.imul, 1) := by decide +kernel
theorem dX5_all_23 : decode cX5_all 23 = .ok (.iadd, 1) := by decide +kernel
theorem dX5_all_24 : decode cX5_all 24 = .ok (.iaload, 1) := by decide +kernel
theorem dX5_all_25 : decode cX5_all 25 = .ok (.iadd, 1) := by decide +kernel
theorem dX5_all_26 : decode cX5_all 26 = .ok (.istore_n 1, 1) := by decide +kernel
theorem dX5_all_27 : decode cX5_all 27 = .ok (.iinc 2 1, 3) := by decide +kernel
theorem dX5_all_30 : decode cX5_all 30 = .ok (.goto (-26), 3) := by decide +kernel
theorem dX5_all_33 : decode cX5_all 33 = .ok (.iload_n 1, 1) := by decide +kernel
theorem dX5_all_34 : decode cX5_all 34 = .ok (.ireturn, 1) := by decide +kernel
set_option maxHeartbeats 4000000 in
set_option maxRecDepth 100000 in
theorem c_X5_all (l : Launch) (D : va_G) (cI cC cO : ClassId) (a : Nat → Nat) (M : Mm) (res : Int32) (sz : Nat) (h : F_X5_all M = some res) : Met l yX5_all (Cond.code yX5_all cX5_all 3 (Option.some Jvm.ClassFile.FieldType.int) :: lw_g) ({ frames := 0, cells := 0, slots := 0, locals := 0 } : Room) (va_Pc [.ref (a 0)] (pS D cI cC cO sz (wX5 a cI cC cO M))) (QI D cI cC cO (va_A (wX5 a cI cC cO M) sz) (wX5 a cI cC cO M) res) 0 0 (va_A (wX5 a cI cC cO M) sz) := by
  refine Met.ofW (cc := cX5_all) (maxL := 3) (ret := (Option.some Jvm.ClassFile.FieldType.int)) (by decide) rfl ?_
  intro p e s m args below meth c s₁ B hml hv
  obtain ⟨rfl, rfl, hP, hK, hD0, hN⟩ := hv
  have hx := B.exec
  have hb := B.bytes
  have hr := B.returns
  have ht : ∀ w ∈ lw_g, w.before ([.ref (a 0)] : List Value).toArray s = true := fun w hw => atoms_spec (ws := Cond.code yX5_all cX5_all 3 (Option.some Jvm.ClassFile.FieldType.int) :: lw_g) B.pre w (List.mem_cons_of_mem _ hw)
  have hown : s.vm.findClass RX5 = some m.cls := findClass_of_methodNamed B.named
  have hlocks := B.notSynchronized
  have hD := hD0.self (sz := s.heap.size)
  generalize hAe : va_A (wX5 a cI cC cO M) s.heap.size = A at hD ⊢
  have hA : ∀ q : Nat, s.heap.size ≤ q → A q := fun q hq => by rw [← hAe]; exact Or.inr hq
  have hS : va_S A s.heap s.heap [] := va_S.rf
  have hl := lv_entry ([.ref (a 0)]) (n := 3) (Nat.le_of_ble_eq_true rfl)
  rw [lg_entry_eq]
  generalize (lg_sl ([.ref (a 0)]) ++ List.replicate (3 - (lg_sl ([.ref (a 0)])).length) Slot.unset).toArray = ls at hl ⊢
  have hl : lv_has ls 3 [(0, .ref (a 0))] := hl
  have w4 : ∀ (n4 : Nat) (y1 y2 : Int32) (H : Heap) (locs : List Loc) (ls : Array Slot), F_X5_all_4 n4 M y1 y2 = some res → va_P D classes (wX5 a cI cC cO M) H → va_D A (wX5 a cI cC cO M) → va_S A s.heap H locs → lv_has ls 3 [(0, .ref (a 0)), (1, .int y1), (2, .int y2)] → W p l e ({ frames := 0, cells := 0, slots := 0, locals := 0 } : Room) s m ([.ref (a 0)] : List Value).toArray below meth c H locs 0 0 (MQ below (QI D cI cC cO A (wX5 a cI cC cO M) res) ([.ref (a 0)] : List Value).toArray s 0 0 A) (F0 m 4 ls []) := by
    intro n4
    induction n4 with
    | zero => intro y1 y2 H locs ls h hP hD hS hl; exact absurd (show (none : Option (Int32)) = some res from h) (by simp)
    | succ n4 ih4 =>
      intro y1 y2 H locs ls h hP hD hS hl
      have h : F_X5_allB_4 (F_X5_all_4 n4) M y1 y2 = some res := h
      unfold F_X5_allB_4 at h
      refine lv_iload_n hx hb dX5_all_4 rfl (lv_at hl 2 rfl) ?_
      refine lv_aload_n hx hb dX5_all_5 rfl (lv_at hl 0 rfl) ?_
      refine va_get (D := D) (ci := 5) (v := .ref (a 1)) (C := RX5) (T := TX5) (N := 23) hx hb ht i_X5 hown hK hP 0 rfl rfl 0 (by decide) (ht _ wd_536) (fun _ h9 => h9) rfl dX5_all_6 ?_
      refine lv_iconst (v := (0 : Int32)) hx hb dX5_all_9 (by decide) ?_
      obtain ⟨i1, h⟩ := ck_ok h
      refine va_iald hx hb hK hP 1 0 rfl rfl i1 dX5_all_10 ?_
      refine lv_icmp_ge (tgt := 33) hx hb dX5_all_11 (by decide) (fun c2 => ?_) (fun c2 => ?_)
      · replace h := fp c2 h
        refine lv_iload_n hx hb dX5_all_33 rfl (lv_at hl 1 rfl) ?_
        cases h
        exact rt_i hx hb hr hlocks hS hP hK hD dX5_all_34
      · replace h := fn c2 h
        refine lv_iload_n hx hb dX5_all_14 rfl (lv_at hl 1 rfl) ?_
        refine lv_aload_n hx hb dX5_all_15 rfl (lv_at hl 0 rfl) ?_
        refine va_get (D := D) (ci := 5) (v := .ref (a 1)) (C := RX5) (T := TX5) (N := 23) hx hb ht i_X5 hown hK hP 0 rfl rfl 0 (by decide) (ht _ wd_536) (fun _ h9 => h9) rfl dX5_all_16 ?_
        refine lv_iconst (v := (2 : Int32)) hx hb dX5_all_19 (by decide) ?_
        refine lv_iconst (v := (2 : Int32)) hx hb dX5_all_20 (by decide) ?_
        refine lv_iload_n hx hb dX5_all_21 rfl (lv_at hl 2 rfl) ?_
        refine lv_imul hx hb dX5_all_22 ?_
        refine lv_iadd hx hb dX5_all_23 ?_
        obtain ⟨i3, h⟩ := ck_ok h
        refine va_iald hx hb hK hP 1 0 rfl rfl i3 dX5_all_24 ?_
        refine lv_iadd hx hb dX5_all_25 ?_
        refine lv_istore_n (lv' := [(1, .int (y1 + (M 0 ((2 : Int32) + ((2 : Int32) * y2)).toNatClampNeg))), (0, .ref (a 0)), (2, .int y2)]) hx hb dX5_all_26 rfl hl (by decide) rfl (fun ls hl => ?_)
        refine lv_iinc (v := (y2 + 1)) (lv' := [(2, .int (y2 + 1)), (1, .int (y1 + (M 0 ((2 : Int32) + ((2 : Int32) * y2)).toNatClampNeg))), (0, .ref (a 0))]) hx hb dX5_all_27 hl (k := 2) rfl rfl (by decide) rfl (fun ls hl => ?_)
        refine lv_goto (tgt := 4) hx hb dX5_all_30 (by decide) ?_
        exact ih4 (y1 + (M 0 ((2 : Int32) + ((2 : Int32) * y2)).toNatClampNeg)) (y2 + 1) _ _ ls h hP hD hS (lv_sub hl [2, 1, 0] rfl)
  unfold F_X5_all at h
  refine lv_iconst (v := (0 : Int32)) hx hb dX5_all_0 (by decide) ?_
  refine lv_istore_n (lv' := [(1, .int (0 : Int32)), (0, .ref (a 0))]) hx hb dX5_all_1 rfl hl (by decide) rfl (fun ls hl => ?_)
  refine lv_iconst (v := (0 : Int32)) hx hb dX5_all_2 (by decide) ?_
  refine lv_istore_n (lv' := [(2, .int (0 : Int32)), (1, .int (0 : Int32)), (0, .ref (a 0))]) hx hb dX5_all_3 rfl hl (by decide) rfl (fun ls hl => ?_)
  exact w4 FU (0 : Int32) (0 : Int32) _ _ ls h hP hD hS (lv_sub hl [2, 1, 0] rfl)
theorem dX5_earliest_0 : decode cX5_earliest 0 = .ok (.iload_n 1, 1) := by decide +kernel
theorem dX5_earliest_1 : decode cX5_earliest 1 = .ok (.iconst (-1), 1) := by decide +kernel
theorem dX5_earliest_2 : decode cX5_earliest 2 = .ok (.bipush 120, 2) := by decide +kernel
theorem dX5_earliest_4 : decode cX5_earliest 4 = .ok (.invokestatic 63, 3) := by decide +kernel
theorem dX5_earliest_7 : decode cX5_earliest 7 = .ok (.ifCond .ne 6, 3) := by decide +kernel
theorem dX5_earliest_10 : decode cX5_earliest 10 = .ok (.ldc 67, 2) := by decide +kernel
theorem dX5_earliest_12 : decode cX5_earliest 12 = .ok (.ireturn, 1) := by decide +kernel
theorem dX5_earliest_13 : decode cX5_earliest 13 = .ok (.iload_n 1, 1) := by decide +kernel
theorem dX5_earliest_14 : decode cX5_earliest 14 = .ok (.ifCond .ge 10, 3) := by decide +kernel
theorem dX5_earliest_17 : decode cX5_earliest 17 = .ok (.aload_n 0, 1) := by decide +kernel
theorem dX5_earliest_18 : decode cX5_earliest 18 = .ok (.invokevirtual 146, 3) := by decide +kernel
theorem dX5_earliest_21 : decode cX5_earliest 21 = .ok (.goto 4, 3) := by decide +kernel
theorem dX5_earliest_24 : decode cX5_earliest 24 = .ok (.iload_n 1, 1) := by decide +kernel
theorem dX5_earliest_25 : decode cX5_earliest 25 = .ok (.istore_n 2, 1) := by decide +kernel
theorem dX5_earliest_26 : decode cX5_earliest 26 = .ok (.iconst 0, 1) := by decide +kernel
theorem dX5_earliest_27 : decode cX5_earliest 27 = .ok (.istore_n 3, 1) := by decide +kernel
theorem dX5_earliest_28 : decode cX5_earliest 28 = .ok (.iload_n 3, 1) := by decide +kernel
theorem dX5_earliest_29 : decode cX5_earliest 29 = .ok (.bipush 16, 2) := by decide +kernel
theorem dX5_earliest_31 : decode cX5_earliest 31 = .ok (.if_icmp .ge 18, 3) := by decide +kernel
theorem dX5_earliest_34 : decode cX5_earliest 34 = .ok (.aload_n 0, 1) := by decide +kernel
theorem dX5_earliest_35 : decode cX5_earliest 35 = .ok (.iload_n 3, 1) := by decide +kernel
theorem dX5_earliest_36 : decode cX5_earliest 36 = .ok (.invokevirtual 143, 3) := by decide +kernel
theorem dX5_earliest_39 : decode cX5_earliest 39 = .ok (.iload_n 2, 1) := by decide +kernel
theorem dX5_earliest_40 : decode cX5_earliest 40 = .ok (.if_icmp .ge 9, 3) := by decide +kernel
theorem dX5_earliest_43 : decode cX5_earliest 43 = .ok (.iinc 3 1, 3) := by decide +kernel
theorem dX5_earliest_46 : decode cX5_earliest 46 = .ok (.goto (-18), 3) := by decide +kernel
theorem dX5_earliest_49 : decode cX5_earliest 49 = .ok (.iload_n 3, 1) := by decide +kernel
theorem dX5_earliest_50 : decode cX5_earliest 50 = .ok (.bipush 16, 2) := by decide +kernel
theorem dX5_earliest_52 : decode cX5_earliest 52 = .ok (.if_icmp .ne 8, 3) := by decide +kernel
theorem dX5_earliest_55 : decode cX5_earliest 55 = .ok (.ldc 104, 2) := by decide +kernel
theorem dX5_earliest_57 : decode cX5_earliest 57 = .ok (.goto 4, 3) := by decide +kernel
theorem dX5_earliest_60 : decode cX5_earliest 60 = .ok (.iload_n 3, 1) := by decide +kernel
theorem dX5_earliest_61 : decode cX5_earliest 61 = .ok (.ireturn, 1) := by decide +kernel
set_option maxHeartbeats 4000000 in
set_option maxRecDepth 100000 in
theorem c_X5_earliest (l : Launch) (D : va_G) (cI cC cO : ClassId) (a : Nat → Nat) (M : Mm) (x1 : Int32) (res : Int32 × Mm) (sz : Nat) (h : F_X5_earliest M x1 = some res) : Met l yX5_earliest (Cond.code yX5_earliest cX5_earliest 4 (Option.some Jvm.ClassFile.FieldType.int) :: lw_g) ({ frames := 5, cells := 0, slots := 0, locals := 114 } : Room) (va_Pc [.ref (a 0), .int x1] (pS D cI cC cO sz (wX5 a cI cC cO M))) (QI D cI cC cO (va_A (wX5 a cI cC cO M) sz) (wX5 a cI cC cO res.2) res.1) 0 0 (va_A (wX5 a cI cC cO M) sz) := by
  refine Met.ofW (cc := cX5_earliest) (maxL := 4) (ret := (Option.some Jvm.ClassFile.FieldType.int)) (by decide) rfl ?_
  intro p e s m args below meth c s₁ B hml hv
  obtain ⟨rfl, rfl, hP, hK, hD0, hN⟩ := hv
  have hx := B.exec
  have hb := B.bytes
  have hr := B.returns
  have ht : ∀ w ∈ lw_g, w.before ([.ref (a 0), .int x1] : List Value).toArray s = true := fun w hw => atoms_spec (ws := Cond.code yX5_earliest cX5_earliest 4 (Option.some Jvm.ClassFile.FieldType.int) :: lw_g) B.pre w (List.mem_cons_of_mem _ hw)
  have hown : s.vm.findClass RX5 = some m.cls := findClass_of_methodNamed B.named
  have hlocks := B.notSynchronized
  have hD := hD0.self (sz := s.heap.size)
  generalize hAe : va_A (wX5 a cI cC cO M) s.heap.size = A at hD ⊢
  have hA : ∀ q : Nat, s.heap.size ≤ q → A q := fun q hq => by rw [← hAe]; exact Or.inr hq
  have hS : va_S A s.heap s.heap [] := va_S.rf
  have hl := lv_entry ([.ref (a 0), .int x1]) (n := 4) (Nat.le_of_ble_eq_true rfl)
  rw [lg_entry_eq]
  generalize (lg_sl ([.ref (a 0), .int x1]) ++ List.replicate (4 - (lg_sl ([.ref (a 0), .int x1])).length) Slot.unset).toArray = ls at hl ⊢
  have hl : lv_has ls 4 [(0, .ref (a 0)), (1, .int x1)] := hl
  have w49 : ∀ (M : Mm) (y3 : Int32) (H : Heap) (locs : List Loc) (ls : Array Slot), F_X5_earliest_49 M y3 = some res → va_P D classes (wX5 a cI cC cO M) H → va_D A (wX5 a cI cC cO M) → va_S A s.heap H locs → lv_has ls 4 [(3, .int y3)] → W p l e ({ frames := 5, cells := 0, slots := 0, locals := 114 } : Room) s m ([.ref (a 0), .int x1] : List Value).toArray below meth c H locs 0 0 (MQ below (QI D cI cC cO A (wX5 a cI cC cO res.2) res.1) ([.ref (a 0), .int x1] : List Value).toArray s 0 0 A) (F0 m 49 ls []) := by
    intro M y3 H locs ls h hP hD hS hl
    unfold F_X5_earliest_49 at h
    refine lv_iload_n hx hb dX5_earliest_49 rfl (lv_at hl 0 rfl) ?_
    refine lv_bipush (v := (16 : Int32)) hx hb dX5_earliest_50 (by decide) ?_
    refine lv_icmp_ne (tgt := 60) hx hb dX5_earliest_52 (by decide) (fun c1 => ?_) (fun c1 => ?_)
    · replace h := fn c1 h
      refine lv_iload_n hx hb dX5_earliest_60 rfl (lv_at hl 0 rfl) ?_
      cases h
      exact rt_i hx hb hr hlocks hS hP hK hD dX5_earliest_61
    · replace h := fp c1 h
      refine lv_ldc hx hb hown (ht _ wd_691) dX5_earliest_55 ?_
      refine lv_goto (tgt := 61) hx hb dX5_earliest_57 (by decide) ?_
      cases h
      exact rt_i hx hb hr hlocks hS hP hK hD dX5_earliest_61
  have w28 : ∀ (n28 : Nat) (M : Mm) (y2 y3 : Int32) (H : Heap) (locs : List Loc) (ls : Array Slot), F_X5_earliest_28 n28 M y2 y3 = some res → va_P D classes (wX5 a cI cC cO M) H → va_D A (wX5 a cI cC cO M) → va_S A s.heap H locs → lv_has ls 4 [(0, .ref (a 0)), (2, .int y2), (3, .int y3)] → W p l e ({ frames := 5, cells := 0, slots := 0, locals := 114 } : Room) s m ([.ref (a 0), .int x1] : List Value).toArray below meth c H locs 0 0 (MQ below (QI D cI cC cO A (wX5 a cI cC cO res.2) res.1) ([.ref (a 0), .int x1] : List Value).toArray s 0 0 A) (F0 m 28 ls []) := by
    intro n28
    induction n28 with
    | zero => intro M y2 y3 H locs ls h hP hD hS hl; exact absurd (show (none : Option (Int32 × Mm)) = some res from h) (by simp)
    | succ n28 ih28 =>
      intro M y2 y3 H locs ls h hP hD hS hl
      have h : F_X5_earliestB_28 (F_X5_earliest_28 n28) M y2 y3 = some res := h
      unfold F_X5_earliestB_28 at h
      refine lv_iload_n hx hb dX5_earliest_28 rfl (lv_at hl 2 rfl) ?_
      refine lv_bipush (v := (16 : Int32)) hx hb dX5_earliest_29 (by decide) ?_
      refine lv_icmp_ge (tgt := 49) hx hb dX5_earliest_31 (by decide) (fun c1 => ?_) (fun c1 => ?_)
      · replace h := fp c1 h
        exact w49 M y3 _ _ ls h hP hD hS (lv_sub hl [2] rfl)
      · replace h := fn c1 h
        refine lv_aload_n hx hb dX5_earliest_34 rfl (lv_at hl 0 rfl) ?_
        refine lv_iload_n hx hb dX5_earliest_35 rfl (lv_at hl 2 rfl) ?_
        obtain ⟨u2, M3, e4, h⟩ := b2_ok h
        refine cl_Vi (ws' := (wX5 a cI cC cO M3)) ⟨hx, hb, hml, hown, ht⟩ (c_X5_comes l D cI cC cO a M y3 _ _ e4) (cwv 1 ht wd_699 wd_6 wd_696 wd_698 ws_31 (by decide +kernel) rfl rfl ⟨Nat.le_of_ble_eq_true rfl, Nat.le_of_ble_eq_true rfl⟩) 5 0 rfl rfl rfl hK hP hD hS hA hN [0, 1, 2, 3, 4, 5, 6, 7, 8, 9, 10, 11, 12] [] [0, 1, 2, 3, 4, 5, 6, 7, 8, 9, 10, 11, 12] (by decide) rfl rfl (by decide) (by decide) rfl (by decide) rfl hl.1 rfl (Nat.le_of_ble_eq_true rfl) dX5_earliest_36 ⟨Nat.le_of_ble_eq_true rfl, Nat.le_of_ble_eq_true rfl⟩ (fun H locs hP hD hS => ?_)
        refine lv_iload_n hx hb dX5_earliest_39 rfl (lv_at hl 1 rfl) ?_
        refine lv_icmp_ge (tgt := 49) hx hb dX5_earliest_40 (by decide) (fun c5 => ?_) (fun c5 => ?_)
        · replace h := fp c5 h
          exact w49 M3 y3 _ _ ls h hP hD hS (lv_sub hl [2] rfl)
        · replace h := fn c5 h
          refine lv_iinc (v := (y3 + 1)) (lv' := [(3, .int (y3 + 1)), (0, .ref (a 0)), (2, .int y2)]) hx hb dX5_earliest_43 hl (k := 2) rfl rfl (by decide) rfl (fun ls hl => ?_)
          refine lv_goto (tgt := 28) hx hb dX5_earliest_46 (by decide) ?_
          exact ih28 M3 y2 (y3 + 1) _ _ ls h hP hD hS (lv_sub hl [1, 2, 0] rfl)
  unfold F_X5_earliest at h
  refine lv_iload_n hx hb dX5_earliest_0 rfl (lv_at hl 1 rfl) ?_
  refine lv_iconst (v := (-1 : Int32)) hx hb dX5_earliest_1 (by decide) ?_
  refine lv_bipush (v := (120 : Int32)) hx hb dX5_earliest_2 (by decide) ?_
  obtain ⟨u1, e2, h⟩ := b1_ok h
  refine cl_Si (ws' := (wX5 a cI cC cO M)) ⟨hx, hb, hml, hown, ht⟩ (c_X5_in l D cI cC cO x1 (-1 : Int32) (120 : Int32) _ _ e2) (cwst 3 ht wd_612 wd_6 wd_610 wd_611 (by decide +kernel) rfl rfl ⟨Nat.le_of_ble_eq_true rfl, Nat.le_of_ble_eq_true rfl⟩) hK hP hD hS hA hN [] [0, 1, 2, 3, 4, 5, 6, 7, 8, 9, 10, 11, 12] [0, 1, 2, 3, 4, 5, 6, 7, 8, 9, 10, 11, 12] (by decide) rfl rfl (by decide) (by decide) rfl (by decide) rfl hl.1 rfl (Nat.le_of_ble_eq_true rfl) dX5_earliest_4 ⟨Nat.le_of_ble_eq_true rfl, Nat.le_of_ble_eq_true rfl⟩ (fun H locs hP hD hS => ?_)
  refine lv_if_ne (tgt := 13) hx hb dX5_earliest_7 (by decide) (fun c3 => ?_) (fun c3 => ?_)
  · replace h := fn c3 h
    refine lv_iload_n hx hb dX5_earliest_13 rfl (lv_at hl 1 rfl) ?_
    refine lv_if_ge (tgt := 24) hx hb dX5_earliest_14 (by decide) (fun c4 => ?_) (fun c4 => ?_)
    · replace h := fp c4 h
      refine lv_iload_n hx hb dX5_earliest_24 rfl (lv_at hl 1 rfl) ?_
      refine lv_istore_n (lv' := [(2, .int x1), (0, .ref (a 0)), (1, .int x1)]) hx hb dX5_earliest_25 rfl hl (by decide) rfl (fun ls hl => ?_)
      refine lv_iconst (v := (0 : Int32)) hx hb dX5_earliest_26 (by decide) ?_
      refine lv_istore_n (lv' := [(3, .int (0 : Int32)), (2, .int x1), (0, .ref (a 0)), (1, .int x1)]) hx hb dX5_earliest_27 rfl hl (by decide) rfl (fun ls hl => ?_)
      exact w28 FU M x1 (0 : Int32) _ _ ls h hP hD hS (lv_sub hl [2, 1, 0] rfl)
    · replace h := fn c4 h
      refine lv_aload_n hx hb dX5_earliest_17 rfl (lv_at hl 0 rfl) ?_
      obtain ⟨u5, e6, h⟩ := b1_ok h
      refine cl_Vi (ws' := (wX5 a cI cC cO M)) ⟨hx, hb, hml, hown, ht⟩ (c_X5_all l D cI cC cO a M _ _ e6) (cwv 0 ht wd_736 wd_6 wd_733 wd_735 ws_39 (by decide +kernel) rfl rfl ⟨Nat.le_of_ble_eq_true rfl, Nat.le_of_ble_eq_true rfl⟩) 5 0 rfl rfl rfl hK hP hD hS hA hN [0, 1, 2, 3, 4, 5, 6, 7, 8, 9, 10, 11, 12] [] [0, 1, 2, 3, 4, 5, 6, 7, 8, 9, 10, 11, 12] (by decide) rfl rfl (by decide) (by decide) rfl (by decide) rfl hl.1 rfl (Nat.le_of_ble_eq_true rfl) dX5_earliest_18 ⟨Nat.le_of_ble_eq_true rfl, Nat.le_of_ble_eq_true rfl⟩ (fun H locs hP hD hS => ?_)
      refine lv_goto (tgt := 25) hx hb dX5_earliest_21 (by decide) ?_
      refine lv_istore_n (lv' := [(2, .int u5), (0, .ref (a 0)), (1, .int x1)]) hx hb dX5_earliest_25 rfl hl (by decide) rfl (fun ls hl => ?_)
      refine lv_iconst (v := (0 : Int32)) hx hb dX5_earliest_26 (by decide) ?_
      refine lv_istore_n (lv' := [(3, .int (0 : Int32)), (2, .int u5), (0, .ref (a 0)), (1, .int x1)]) hx hb dX5_earliest_27 rfl hl (by decide) rfl (fun ls hl => ?_)
      exact w28 FU M u5 (0 : Int32) _ _ ls h hP hD hS (lv_sub hl [2, 1, 0] rfl)
  · replace h := fp c3 h
    refine lv_ldc hx hb hown (ht _ wd_613) dX5_earliest_10 ?_
    cases h
    exact rt_i hx hb hr hlocks hS hP hK hD dX5_earliest_12
theorem dX5_repeated_0 : decode cX5_repeated 0 = .ok (.aload_n 0, 1) := by decide +kernel
theorem dX5_repeated_1 : decode cX5_repeated 1 = .ok (.iload_n 1, 1) := by decide +kernel
theorem dX5_repeated_2 : decode cX5_repeated 2 = .ok (.invokevirtual 83, 3) := by decide +kernel
theorem dX5_repeated_5 : decode cX5_repeated 5 = .ok (.ifCond .eq 17, 3) := by decide +kernel
theorem dX5_repeated_8 : decode cX5_repeated 8 = .ok (.iload_n 1, 1) := by decide +kernel
theorem dX5_repeated_9 : decode cX5_repeated 9 = .ok (.ifCond .eq 13, 3) := by decide +kernel
theorem dX5_repeated_12 : decode cX5_repeated 12 = .ok (.iload_n 2, 1) := by decide +kernel
theorem dX5_repeated_13 : decode cX5_repeated 13 = .ok (.iconst 0, 1) := by decide +kernel
theorem dX5_repeated_14 : decode cX5_repeated 14 = .ok (.bipush 15, 2) := by decide +kernel
theorem dX5_repeated_16 : decode cX5_repeated 16 = .ok (.invokestatic 63, 3) := by decide +kernel
theorem dX5_repeated_19 : decode cX5_repeated 19 = .ok (.ifCond .ne 6, 3) := by decide +kernel
theorem dX5_repeated_22 : decode cX5_repeated 22 = .ok (.ldc 67, 2) := by decide +kernel
theorem dX5_repeated_24 : decode cX5_repeated 24 = .ok (.ireturn, 1) := by decide +kernel
theorem dX5_repeated_25 : decode cX5_repeated 25 = .ok (.aload_n 0, 1) := by decide +kernel
theorem dX5_repeated_26 : decode cX5_repeated 26 = .ok (.iload_n 1, 1) := by decide +kernel
theorem dX5_repeated_27 : decode cX5_repeated 27 = .ok (.putfield 60, 3) := by decide +kernel
theorem dX5_repeated_30 : decode cX5_repeated 30 = .ok (.aload_n 0, 1) := by decide +kernel
theorem dX5_repeated_31 : decode cX5_repeated 31 = .ok (.iload_n 2, 1) := by decide +kernel
theorem dX5_repeated_32 : decode cX5_repeated 32 = .ok (.invokevirtual 143, 3) := by decide +kernel
theorem dX5_repeated_35 : decode cX5_repeated 35 = .ok (.istore_n 3, 1) := by decide +kernel
theorem dX5_repeated_36 : decode cX5_repeated 36 = .ok (.aload_n 0, 1) := by decide +kernel
theorem dX5_repeated_37 : decode cX5_repeated 37 = .ok (.invokevirtual 47, 3) := by decide +kernel
theorem dX5_repeated_40 : decode cX5_repeated 40 = .ok (.iload_n 3, 1) := by decide +kernel
theorem dX5_repeated_41 : decode cX5_repeated 41 = .ok (.ireturn, 1) := by decide +kernel
set_option maxHeartbeats 4000000 in
set_option maxRecDepth 100000 in
theorem c_X5_repeated (l : Launch) (D : va_G) (cI cC cO : ClassId) (a : Nat → Nat) (M : Mm) (x1 x2 : Int32) (res : Int32 × Mm) (sz : Nat) (h : F_X5_repeated M x1 x2 = some res) : Met l yX5_repeated (Cond.code yX5_repeated cX5_repeated 4 (Option.some Jvm.ClassFile.FieldType.int) :: lw_g) ({ frames := 5, cells := 0, slots := 0, locals := 114 } : Room) (va_Pc [.ref (a 0), .int x1, .int x2] (pS D cI cC cO sz (wX5 a cI cC cO M))) (QI D cI cC cO (va_A (wX5 a cI cC cO M) sz) (wX5 a cI cC cO res.2) res.1) 0 0 (va_A (wX5 a cI cC cO M) sz) := by
  refine Met.ofW (cc := cX5_repeated) (maxL := 4) (ret := (Option.some Jvm.ClassFile.FieldType.int)) (by decide) rfl ?_
  intro p e s m args below meth c s₁ B hml hv
  obtain ⟨rfl, rfl, hP, hK, hD0, hN⟩ := hv
  have hx := B.exec
  have hb := B.bytes
  have hr := B.returns
  have ht : ∀ w ∈ lw_g, w.before ([.ref (a 0), .int x1, .int x2] : List Value).toArray s = true := fun w hw => atoms_spec (ws := Cond.code yX5_repeated cX5_repeated 4 (Option.some Jvm.ClassFile.FieldType.int) :: lw_g) B.pre w (List.mem_cons_of_mem _ hw)
  have hown : s.vm.findClass RX5 = some m.cls := findClass_of_methodNamed B.named
  have hlocks := B.notSynchronized
  have hD := hD0.self (sz := s.heap.size)
  generalize hAe : va_A (wX5 a cI cC cO M) s.heap.size = A at hD ⊢
  have hA : ∀ q : Nat, s.heap.size ≤ q → A q := fun q hq => by rw [← hAe]; exact Or.inr hq
  have hS : va_S A s.heap s.heap [] := va_S.rf
  have hl := lv_entry ([.ref (a 0), .int x1, .int x2]) (n := 4) (Nat.le_of_ble_eq_true rfl)
  rw [lg_entry_eq]
  generalize (lg_sl ([.ref (a 0), .int x1, .int x2]) ++ List.replicate (4 - (lg_sl ([.ref (a 0), .int x1, .int x2])).length) Slot.unset).toArray = ls at hl ⊢
  have hl : lv_has ls 4 [(0, .ref (a 0)), (1, .int x1), (2, .int x2)] := hl
  unfold F_X5_repeated at h
  refine lv_aload_n hx hb dX5_repeated_0 rfl (lv_at hl 0 rfl) ?_
  refine lv_iload_n hx hb dX5_repeated_1 rfl (lv_at hl 1 rfl) ?_
  obtain ⟨u1, e2, h⟩ := b1_ok h
  refine cl_Vi (ws' := (wX5 a cI cC cO M)) ⟨hx, hb, hml, hown, ht⟩ (c_X5_isPlace l D cI cC cO a M x1 _ _ e2) (cwv 1 ht wd_634 wd_6 wd_631 wd_633 ws_23 (by decide +kernel) rfl rfl ⟨Nat.le_of_ble_eq_true rfl, Nat.le_of_ble_eq_true rfl⟩) 5 0 rfl rfl rfl hK hP hD hS hA hN [0, 1, 2, 3, 4, 5, 6, 7, 8, 9, 10, 11, 12] [] [0, 1, 2, 3, 4, 5, 6, 7, 8, 9, 10, 11, 12] (by decide) rfl rfl (by decide) (by decide) rfl (by decide) rfl hl.1 rfl (Nat.le_of_ble_eq_true rfl) dX5_repeated_2 ⟨Nat.le_of_ble_eq_true rfl, Nat.le_of_ble_eq_true rfl⟩ (fun H locs hP hD hS => ?_)
  refine lv_if_eq (tgt := 22) hx hb dX5_repeated_5 (by decide) (fun c3 => ?_) (fun c3 => ?_)
  · replace h := fp c3 h
    refine lv_ldc hx hb hown (ht _ wd_613) dX5_repeated_22 ?_
    cases h
    exact rt_i hx hb hr hlocks hS hP hK hD dX5_repeated_24
  · replace h := fn c3 h
    refine lv_iload_n hx hb dX5_repeated_8 rfl (lv_at hl 1 rfl) ?_
    refine lv_if_eq (tgt := 22) hx hb dX5_repeated_9 (by decide) (fun c4 => ?_) (fun c4 => ?_)
    · replace h := fp c4 h
      refine lv_ldc hx hb hown (ht _ wd_613) dX5_repeated_22 ?_
      cases h
      exact rt_i hx hb hr hlocks hS hP hK hD dX5_repeated_24
    · replace h := fn c4 h
      refine lv_iload_n hx hb dX5_repeated_12 rfl (lv_at hl 2 rfl) ?_
      refine lv_iconst (v := (0 : Int32)) hx hb dX5_repeated_13 (by decide) ?_
      refine lv_bipush (v := (15 : Int32)) hx hb dX5_repeated_14 (by decide) ?_
      obtain ⟨u5, e6, h⟩ := b1_ok h
      refine cl_Si (ws' := (wX5 a cI cC cO M)) ⟨hx, hb, hml, hown, ht⟩ (c_X5_in l D cI cC cO x2 (0 : Int32) (15 : Int32) _ _ e6) (cwst 3 ht wd_612 wd_6 wd_610 wd_611 (by decide +kernel) rfl rfl ⟨Nat.le_of_ble_eq_true rfl, Nat.le_of_ble_eq_true rfl⟩) hK hP hD hS hA hN [] [0, 1, 2, 3, 4, 5, 6, 7, 8, 9, 10, 11, 12] [0, 1, 2, 3, 4, 5, 6, 7, 8, 9, 10, 11, 12] (by decide) rfl rfl (by decide) (by decide) rfl (by decide) rfl hl.1 rfl (Nat.le_of_ble_eq_true rfl) dX5_repeated_16 ⟨Nat.le_of_ble_eq_true rfl, Nat.le_of_ble_eq_true rfl⟩ (fun H locs hP hD hS => ?_)
      refine lv_if_ne (tgt := 25) hx hb dX5_repeated_19 (by decide) (fun c7 => ?_) (fun c7 => ?_)
      · replace h := fn c7 h
        refine lv_aload_n hx hb dX5_repeated_25 rfl (lv_at hl 0 rfl) ?_
        refine lv_iload_n hx hb dX5_repeated_26 rfl (lv_at hl 1 rfl) ?_
        refine va_put (D := D) (ci := 5) (v := .int x1) (ty := .int) (C := RX5) (T := TX5) (N := 23) hx hb ht i_X5 tyX5 tyX5_ok nmX5 hown hK hP hD hS 0 rfl rfl 22 (by decide) (ht _ wd_558) (fun _ h9 => h9) rfl (by decide +kernel) rfl rfl (Nat.le_of_ble_eq_true rfl) dX5_repeated_27 (fun H locs hP hD hS => ?_)
        obtain ⟨M8, e9, h⟩ := sv_ok h
        have hP : va_P D classes (wX5 a cI cC cO M8) H := by rw [← e9]; exact hP
        have hD : va_D A (wX5 a cI cC cO M8) := by rw [← e9]; exact hD
        refine lv_aload_n hx hb dX5_repeated_30 rfl (lv_at hl 0 rfl) ?_
        refine lv_iload_n hx hb dX5_repeated_31 rfl (lv_at hl 2 rfl) ?_
        obtain ⟨u10, M11, e12, h⟩ := b2_ok h
        refine cl_Vi (ws' := (wX5 a cI cC cO M11)) ⟨hx, hb, hml, hown, ht⟩ (c_X5_comes l D cI cC cO a M8 x2 _ _ e12) (cwv 1 ht wd_699 wd_6 wd_696 wd_698 ws_31 (by decide +kernel) rfl rfl ⟨Nat.le_of_ble_eq_true rfl, Nat.le_of_ble_eq_true rfl⟩) 5 0 rfl rfl rfl hK hP hD hS hA hN [0, 1, 2, 3, 4, 5, 6, 7, 8, 9, 10, 11, 12] [] [0, 1, 2, 3, 4, 5, 6, 7, 8, 9, 10, 11, 12] (by decide) rfl rfl (by decide) (by decide) rfl (by decide) rfl hl.1 rfl (Nat.le_of_ble_eq_true rfl) dX5_repeated_32 ⟨Nat.le_of_ble_eq_true rfl, Nat.le_of_ble_eq_true rfl⟩ (fun H locs hP hD hS => ?_)
        refine lv_istore_n (lv' := [(3, .int u10), (0, .ref (a 0)), (1, .int x1), (2, .int x2)]) hx hb dX5_repeated_35 rfl hl (by decide) rfl (fun ls hl => ?_)
        refine lv_aload_n hx hb dX5_repeated_36 rfl (lv_at hl 1 rfl) ?_
        obtain ⟨M13, e14, h⟩ := b1_ok h
        refine cl_Vv (ws' := (wX5 a cI cC cO M13)) ⟨hx, hb, hml, hown, ht⟩ (c_X5_asIs l D cI cC cO a M11 _ _ e14) (cwv 0 ht wd_535 wd_6 wd_532 wd_534 ws_19 (by decide +kernel) rfl rfl ⟨Nat.le_of_ble_eq_true rfl, Nat.le_of_ble_eq_true rfl⟩) 5 0 rfl rfl rfl hK hP hD hS hA hN [0, 1, 2, 3, 4, 5, 6, 7, 8, 9, 10, 11, 12] [] [0, 1, 2, 3, 4, 5, 6, 7, 8, 9, 10, 11, 12] (by decide) rfl rfl (by decide) (by decide) rfl (by decide) rfl hl.1 rfl (Nat.le_of_ble_eq_true rfl) dX5_repeated_37 ⟨Nat.le_of_ble_eq_true rfl, Nat.le_of_ble_eq_true rfl⟩ (fun H locs hP hD hS => ?_)
        refine lv_iload_n hx hb dX5_repeated_40 rfl (lv_at hl 0 rfl) ?_
        cases h
        exact rt_i hx hb hr hlocks hS hP hK hD dX5_repeated_41
      · replace h := fp c7 h
        refine lv_ldc hx hb hown (ht _ wd_613) dX5_repeated_22 ?_
        cases h
        exact rt_i hx hb hr hlocks hS hP hK hD dX5_repeated_24
theorem dX5_isNarrow_0 : decode cX5_isNarrow 0 = .ok (.iconst 0, 1) := by decide +kernel
theorem dX5_isNarrow_1 : decode cX5_isNarrow 1 = .ok (.istore_n 2, 1) := by decide +kernel
theorem dX5_isNarrow_2 : decode cX5_isNarrow 2 = .ok (.iconst 0, 1) := by decide +kernel
theorem dX5_isNarrow_3 : decode cX5_isNarrow 3 = .ok (.istore_n 3, 1) := by decide +kernel
theorem dX5_isNarrow_4 : decode cX5_isNarrow 4 = .ok (.iload_n 3, 1) := by decide +kernel
theorem dX5_isNarrow_5 : decode cX5_isNarrow 5 = .ok (.aload_n 0, 1) := by decide +kernel
theorem dX5_isNarrow_6 : decode cX5_isNarrow 6 = .ok (.getfield 112, 3) := by decide +kernel
theorem dX5_isNarrow_9 : decode cX5_isNarrow 9 = .ok (.if_icmp .gt 94, 3) := by decide +kernel
theorem dX5_isNarrow_12 : decode cX5_isNarrow 12 = .ok (.aload_n 0, 1) := by decide +kernel
theorem dX5_isNarrow_13 : decode cX5_isNarrow 13 = .ok (.iload_n 1, 1) := by decide +kernel
theorem dX5_isNarrow_14 : decode cX5_isNarrow 14 = .ok (.iconst 0, 1) := by decide +kernel
theorem dX5_isNarrow_15 : decode cX5_isNarrow 15 = .ok (.invokevirtual 101, 3) := by decide +kernel
theorem dX5_isNarrow_18 : decode cX5_isNarrow 18 = .ok (.ifCond .eq 35, 3) := by decide +kernel
theorem dX5_isNarrow_21 : decode cX5_isNarrow 21 = .ok (.aload_n 0, 1) := by decide +kernel
theorem dX5_isNarrow_22 : decode cX5_isNarrow 22 = .ok (.iload_n 1, 1) := by decide +kernel
theorem dX5_isNarrow_23 : decode cX5_isNarrow 23 = .ok (.iload_n 3, 1) := by decide +kernel
theorem dX5_isNarrow_24 : decode cX5_isNarrow 24 = .ok (.invokevirtual 125, 3) := by decide +kernel
theorem dX5_isNarrow_27 : decode cX5_isNarrow 27 = .ok (.ifCond .eq 26, 3) := by decide +kernel
theorem dX5_isNarrow_30 : decode cX5_isNarrow 30 = .ok (.aload_n 0, 1) := by decide +kernel
theorem dX5_isNarrow_31 : decode cX5_isNarrow 31 = .ok (.getfield 38, 3) := by decide +kernel
theorem dX5_isNarrow_34 : decode cX5_isNarrow 34 = .ok (.bipush 16, 2) := by decide +kernel
theorem dX5_isNarrow_36 : decode cX5_isNarrow 36 = .ok (.aload_n 0, 1) := by decide +kernel
theorem dX5_isNarrow_37 : decode cX5_isNarrow 37 = .ok (.iload_n 1, 1) := by decide +kernel
theorem dX5_isNarrow_38 : decode cX5_isNarrow 38 = .ok (.iconst 0, 1) := by decide +kernel
theorem dX5_isNarrow_39 : decode cX5_isNarrow 39 = .ok (.invokevirtual 101, 3) := by decide +kernel
theorem dX5_isNarrow_42 : decode cX5_isNarrow 42 = .ok (.imul, 1) := by decide +kernel
theorem dX5_isNarrow_43 : decode cX5_isNarrow 43 = .ok (.iload_n 3, 1) := by decide +kernel
theorem dX5_isNarrow_44 : decode cX5_isNarrow 44 = .ok (.iadd, 1) := by decide +kernel
theorem dX5_isNarrow_45 : decode cX5_isNarrow 45 = .ok (.iaload, 1) := by decide +kernel
theorem dX5_isNarrow_46 : decode cX5_isNarrow 46 = .ok (.ifCond .lt 7, 3) := by decide +kernel
theorem dX5_isNarrow_49 : decode cX5_isNarrow 49 = .ok (.iconst 1, 1) := by decide +kernel
theorem dX5_isNarrow_50 : decode cX5_isNarrow 50 = .ok (.goto 4, 3) := by decide +kernel
theorem dX5_isNarrow_53 : decode cX5_isNarrow 53 = .ok (.iconst 0, 1) := by decide +kernel
theorem dX5_isNarrow_54 : decode cX5_isNarrow 54 = .ok (.istore 4, 2) := by decide +kernel
theorem dX5_isNarrow_56 : decode cX5_isNarrow 56 = .ok (.iload_n 2, 1) := by decide +kernel
theorem dX5_isNarrow_57 : decode cX5_isNarrow 57 = .ok (.ifCond .ne 34, 3) := by decide +kernel
theorem dX5_isNarrow_60 : decode cX5_isNarrow 60 = .ok (.iload 4, 2) := by decide +kernel
theorem dX5_isNarrow_62 : decode cX5_isNarrow 62 = .ok (.ifCond .eq 33, 3) := by decide +kernel
theorem dX5_isNarrow_65 : decode cX5_isNarrow 65 = .ok (.aload_n 0, 1) := by decide +kernel
theorem dX5_isNarrow_66 : decode cX5_isNarrow 66 = .ok (.getfield 38, 3) := by decide +kernel
theorem dX5_isNarrow_69 : decode cX5_isNarrow 69 = .ok (.bipush 16, 2) := by decide +kernel
theorem dX5_isNarrow_71 : decode cX5_isNarrow 71 = .ok (.aload_n 0, 1) := by decide +kernel
theorem dX5_isNarrow_72 : decode cX5_isNarrow 72 = .ok (.iload_n 1, 1) := by decide +kernel
theorem dX5_isNarrow_73 : decode cX5_isNarrow 73 = .ok (.iconst 1, 1) := by decide +kernel
theorem dX5_isNarrow_74 : decode cX5_isNarrow 74 = .ok (.invokevirtual 101, 3) := by decide +kernel
theorem dX5_isNarrow_77 : decode cX5_isNarrow 77 = .ok (.imul, 1) := by decide +kernel
theorem dX5_isNarrow_78 : decode cX5_isNarrow 78 = .ok (.iload_n 3, 1) := by decide +kernel
theorem dX5_isNarrow_79 : decode cX5_isNarrow 79 = .ok (.iadd, 1) := by decide +kernel
theorem dX5_isNarrow_80 : decode cX5_isNarrow 80 = .ok (.aload_n 0, 1) := by decide +kernel
theorem dX5_isNarrow_81 : decode cX5_isNarrow 81 = .ok (.iload_n 1, 1) := by decide +kernel
theorem dX5_isNarrow_82 : decode cX5_isNarrow 82 = .ok (.iconst 2, 1) := by decide +kernel
theorem dX5_isNarrow_83 : decode cX5_isNarrow 83 = .ok (.invokevirtual 101, 3) := by decide +kernel
theorem dX5_isNarrow_86 : decode cX5_isNarrow 86 = .ok (.iadd, 1) := by decide +kernel
theorem dX5_isNarrow_87 : decode cX5_isNarrow 87 = .ok (.iaload, 1) := by decide +kernel
theorem dX5_isNarrow_88 : decode cX5_isNarrow 88 = .ok (.ifCond .ge 7, 3) := by decide +kernel
theorem dX5_isNarrow_91 : decode cX5_isNarrow 91 = .ok (.iconst 1, 1) := by decide +kernel
theorem dX5_isNarrow_92 : decode cX5_isNarrow 92 = .ok (.goto 4, 3) := by decide +kernel
theorem dX5_isNarrow_95 : decode cX5_isNarrow 95 = .ok (.iconst 0, 1) := by decide +kernel
theorem dX5_isNarrow_96 : decode cX5_isNarrow 96 = .ok (.istore_n 2, 1) := by decide +kernel
theorem dX5_isNarrow_97 : decode cX5_isNarrow 97 = .ok (.iinc 3 1, 3) := by decide +kernel
theorem dX5_isNarrow_100 : decode cX5_isNarrow 100 = .ok (.goto (-96), 3) := by decide +kernel
theorem dX5_isNarrow_103 : decode cX5_isNarrow 103 = .ok (.iload_n 2, 1) := by decide +kernel
theorem dX5_isNarrow_104 : decode cX5_isNarrow 104 = .ok (.ireturn, 1) := by decide +kernel
set_option maxHeartbeats 4000000 in
set_option maxRecDepth 100000 in
theorem c_X5_isNarrow (l : Launch) (D : va_G) (cI cC cO : ClassId) (a : Nat → Nat) (M : Mm) (x1 : Int32) (res : Int32) (sz : Nat) (h : F_X5_isNarrow M x1 = some res) : Met l yX5_isNarrow (Cond.code yX5_isNarrow cX5_isNarrow 5 (Option.some Jvm.ClassFile.FieldType.boolean) :: lw_g) ({ frames := 2, cells := 0, slots := 0, locals := 45 } : Room) (va_Pc [.ref (a 0), .int x1] (pS D cI cC cO sz (wX5 a cI cC cO M))) (QI D cI cC cO (va_A (wX5 a cI cC cO M) sz) (wX5 a cI cC cO M) res) 0 0 (va_A (wX5 a cI cC cO M) sz) := by
  refine Met.ofW (cc := cX5_isNarrow) (maxL := 5) (ret := (Option.some Jvm.ClassFile.FieldType.boolean)) (by decide) rfl ?_
  intro p e s m args below meth c s₁ B hml hv
  obtain ⟨rfl, rfl, hP, hK, hD0, hN⟩ := hv
  have hx := B.exec
  have hb := B.bytes
  have hr := B.returns
  have ht : ∀ w ∈ lw_g, w.before ([.ref (a 0), .int x1] : List Value).toArray s = true := fun w hw => atoms_spec (ws := Cond.code yX5_isNarrow cX5_isNarrow 5 (Option.some Jvm.ClassFile.FieldType.boolean) :: lw_g) B.pre w (List.mem_cons_of_mem _ hw)
  have hown : s.vm.findClass RX5 = some m.cls := findClass_of_methodNamed B.named
  have hlocks := B.notSynchronized
  have hD := hD0.self (sz := s.heap.size)
  generalize hAe : va_A (wX5 a cI cC cO M) s.heap.size = A at hD ⊢
  have hA : ∀ q : Nat, s.heap.size ≤ q → A q := fun q hq => by rw [← hAe]; exact Or.inr hq
  have hS : va_S A s.heap s.heap [] := va_S.rf
  have hl := lv_entry ([.ref (a 0), .int x1]) (n := 5) (Nat.le_of_ble_eq_true rfl)
  rw [lg_entry_eq]
  generalize (lg_sl ([.ref (a 0), .int x1]) ++ List.replicate (5 - (lg_sl ([.ref (a 0), .int x1])).length) Slot.unset).toArray = ls at hl ⊢
  have hl : lv_has ls 5 [(0, .ref (a 0)), (1, .int x1)] := hl
  have w4 : ∀ (n4 : Nat) (y1 y2 y3 : Int32) (H : Heap) (locs : List Loc) (ls : Array Slot), F_X5_isNarrow_4 n4 M y1 y2 y3 = some res → va_P D classes (wX5 a cI cC cO M) H → va_D A (wX5 a cI cC cO M) → va_S A s.heap H locs → lv_has ls 5 [(0, .ref (a 0)), (1, .int y1), (2, .int y2), (3, .int y3)] → W p l e ({ frames := 2, cells := 0, slots := 0, locals := 45 } : Room) s m ([.ref (a 0), .int x1] : List Value).toArray below meth c H locs 0 0 (MQ below (QI D cI cC cO A (wX5 a cI cC cO M) res) ([.ref (a 0), .int x1] : List Value).toArray s 0 0 A) (F0 m 4 ls []) := by
    intro n4
    induction n4 with
    | zero => intro y1 y2 y3 H locs ls h hP hD hS hl; exact absurd (show (none : Option (Int32)) = some res from h) (by simp)
    | succ n4 ih4 =>
      have w54 : ∀ (y1 y2 y3 s0 : Int32) (H : Heap) (locs : List Loc) (ls : Array Slot), F_X5_isNarrow_54 (F_X5_isNarrow_4 n4) M y1 y2 y3 s0 = some res → va_P D classes (wX5 a cI cC cO M) H → va_D A (wX5 a cI cC cO M) → va_S A s.heap H locs → lv_has ls 5 [(0, .ref (a 0)), (1, .int y1), (2, .int y2), (3, .int y3)] → W p l e ({ frames := 2, cells := 0, slots := 0, locals := 45 } : Room) s m ([.ref (a 0), .int x1] : List Value).toArray below meth c H locs 0 0 (MQ below (QI D cI cC cO A (wX5 a cI cC cO M) res) ([.ref (a 0), .int x1] : List Value).toArray s 0 0 A) (F0 m 54 ls [.int s0]) := by
        intro y1 y2 y3 s0 H locs ls h hP hD hS hl
        unfold F_X5_isNarrow_54 at h
        refine lv_istore (lv' := [(4, .int s0), (0, .ref (a 0)), (1, .int y1), (2, .int y2), (3, .int y3)]) hx hb dX5_isNarrow_54 hl (by decide) rfl (fun ls hl => ?_)
        refine lv_iload_n hx hb dX5_isNarrow_56 rfl (lv_at hl 3 rfl) ?_
        refine lv_if_ne (tgt := 91) hx hb dX5_isNarrow_57 (by decide) (fun c1 => ?_) (fun c1 => ?_)
        · replace h := fn c1 h
          refine lv_iconst (v := (1 : Int32)) hx hb dX5_isNarrow_91 (by decide) ?_
          refine lv_goto (tgt := 96) hx hb dX5_isNarrow_92 (by decide) ?_
          refine lv_istore_n (lv' := [(2, .int (1 : Int32)), (4, .int s0), (0, .ref (a 0)), (1, .int y1), (3, .int y3)]) hx hb dX5_isNarrow_96 rfl hl (by decide) rfl (fun ls hl => ?_)
          refine lv_iinc (v := (y3 + 1)) (lv' := [(3, .int (y3 + 1)), (2, .int (1 : Int32)), (4, .int s0), (0, .ref (a 0)), (1, .int y1)]) hx hb dX5_isNarrow_97 hl (k := 4) rfl rfl (by decide) rfl (fun ls hl => ?_)
          refine lv_goto (tgt := 4) hx hb dX5_isNarrow_100 (by decide) ?_
          exact ih4 y1 (1 : Int32) (y3 + 1) _ _ ls h hP hD hS (lv_sub hl [3, 4, 1, 0] rfl)
        · replace h := fp c1 h
          refine lv_iload hx hb dX5_isNarrow_60 (lv_at hl 0 rfl) ?_
          refine lv_if_eq (tgt := 95) hx hb dX5_isNarrow_62 (by decide) (fun c2 => ?_) (fun c2 => ?_)
          · replace h := fp c2 h
            refine lv_iconst (v := (0 : Int32)) hx hb dX5_isNarrow_95 (by decide) ?_
            refine lv_istore_n (lv' := [(2, .int (0 : Int32)), (4, .int s0), (0, .ref (a 0)), (1, .int y1), (3, .int y3)]) hx hb dX5_isNarrow_96 rfl hl (by decide) rfl (fun ls hl => ?_)
            refine lv_iinc (v := (y3 + 1)) (lv' := [(3, .int (y3 + 1)), (2, .int (0 : Int32)), (4, .int s0), (0, .ref (a 0)), (1, .int y1)]) hx hb dX5_isNarrow_97 hl (k := 4) rfl rfl (by decide) rfl (fun ls hl => ?_)
            refine lv_goto (tgt := 4) hx hb dX5_isNarrow_100 (by decide) ?_
            exact ih4 y1 (0 : Int32) (y3 + 1) _ _ ls h hP hD hS (lv_sub hl [3, 4, 1, 0] rfl)
          · replace h := fn c2 h
            refine lv_aload_n hx hb dX5_isNarrow_65 rfl (lv_at hl 1 rfl) ?_
            refine va_get (D := D) (ci := 5) (v := .ref (a 10)) (C := RX5) (T := TX5) (N := 23) hx hb ht i_X5 hown hK hP 0 rfl rfl 14 (by decide) (ht _ wd_550) (fun _ h9 => h9) rfl dX5_isNarrow_66 ?_
            refine lv_bipush (v := (16 : Int32)) hx hb dX5_isNarrow_69 (by decide) ?_
            refine lv_aload_n hx hb dX5_isNarrow_71 rfl (lv_at hl 1 rfl) ?_
            refine lv_iload_n hx hb dX5_isNarrow_72 rfl (lv_at hl 2 rfl) ?_
            refine lv_iconst (v := (1 : Int32)) hx hb dX5_isNarrow_73 (by decide) ?_
            obtain ⟨u3, e4, h⟩ := b1_ok h
            refine cl_Vi (ws' := (wX5 a cI cC cO M)) ⟨hx, hb, hml, hown, ht⟩ (c_X5_pi l D cI cC cO a M y1 (1 : Int32) _ _ e4) (cwv 2 ht wd_678 wd_6 wd_675 wd_677 ws_28 (by decide +kernel) rfl rfl ⟨Nat.le_of_ble_eq_true rfl, Nat.le_of_ble_eq_true rfl⟩) 5 0 rfl rfl rfl hK hP hD hS hA hN [0, 1, 2, 3, 4, 5, 6, 7, 8, 9, 10, 11, 12] [] [0, 1, 2, 3, 4, 5, 6, 7, 8, 9, 10, 11, 12] (by decide) rfl rfl (by decide) (by decide) rfl (by decide) rfl hl.1 rfl (Nat.le_of_ble_eq_true rfl) dX5_isNarrow_74 ⟨Nat.le_of_ble_eq_true rfl, Nat.le_of_ble_eq_true rfl⟩ (fun H locs hP hD hS => ?_)
            refine lv_imul hx hb dX5_isNarrow_77 ?_
            refine lv_iload_n hx hb dX5_isNarrow_78 rfl (lv_at hl 4 rfl) ?_
            refine lv_iadd hx hb dX5_isNarrow_79 ?_
            refine lv_aload_n hx hb dX5_isNarrow_80 rfl (lv_at hl 1 rfl) ?_
            refine lv_iload_n hx hb dX5_isNarrow_81 rfl (lv_at hl 2 rfl) ?_
            refine lv_iconst (v := (2 : Int32)) hx hb dX5_isNarrow_82 (by decide) ?_
            obtain ⟨u5, e6, h⟩ := b1_ok h
            refine cl_Vi (ws' := (wX5 a cI cC cO M)) ⟨hx, hb, hml, hown, ht⟩ (c_X5_pi l D cI cC cO a M y1 (2 : Int32) _ _ e6) (cwv 2 ht wd_678 wd_6 wd_675 wd_677 ws_28 (by decide +kernel) rfl rfl ⟨Nat.le_of_ble_eq_true rfl, Nat.le_of_ble_eq_true rfl⟩) 5 0 rfl rfl rfl hK hP hD hS hA hN [0, 1, 2, 3, 4, 5, 6, 7, 8, 9, 10, 11, 12] [] [0, 1, 2, 3, 4, 5, 6, 7, 8, 9, 10, 11, 12] (by decide) rfl rfl (by decide) (by decide) rfl (by decide) rfl hl.1 rfl (Nat.le_of_ble_eq_true rfl) dX5_isNarrow_83 ⟨Nat.le_of_ble_eq_true rfl, Nat.le_of_ble_eq_true rfl⟩ (fun H locs hP hD hS => ?_)
            refine lv_iadd hx hb dX5_isNarrow_86 ?_
            obtain ⟨i7, h⟩ := ck_ok h
            refine va_iald hx hb hK hP 10 0 rfl rfl i7 dX5_isNarrow_87 ?_
            refine lv_if_ge (tgt := 95) hx hb dX5_isNarrow_88 (by decide) (fun c8 => ?_) (fun c8 => ?_)
            · replace h := fp c8 h
              refine lv_iconst (v := (0 : Int32)) hx hb dX5_isNarrow_95 (by decide) ?_
              refine lv_istore_n (lv' := [(2, .int (0 : Int32)), (4, .int s0), (0, .ref (a 0)), (1, .int y1), (3, .int y3)]) hx hb dX5_isNarrow_96 rfl hl (by decide) rfl (fun ls hl => ?_)
              refine lv_iinc (v := (y3 + 1)) (lv' := [(3, .int (y3 + 1)), (2, .int (0 : Int32)), (4, .int s0), (0, .ref (a 0)), (1, .int y1)]) hx hb dX5_isNarrow_97 hl (k := 4) rfl rfl (by decide) rfl (fun ls hl => ?_)
              refine lv_goto (tgt := 4) hx hb dX5_isNarrow_100 (by decide) ?_
              exact ih4 y1 (0 : Int32) (y3 + 1) _ _ ls h hP hD hS (lv_sub hl [3, 4, 1, 0] rfl)
            · replace h := fn c8 h
              refine lv_iconst (v := (1 : Int32)) hx hb dX5_isNarrow_91 (by decide) ?_
              refine lv_goto (tgt := 96) hx hb dX5_isNarrow_92 (by decide) ?_
              refine lv_istore_n (lv' := [(2, .int (1 : Int32)), (4, .int s0), (0, .ref (a 0)), (1, .int y1), (3, .int y3)]) hx hb dX5_isNarrow_96 rfl hl (by decide) rfl (fun ls hl => ?_)
              refine lv_iinc (v := (y3 + 1)) (lv' := [(3, .int (y3 + 1)), (2, .int (1 : Int32)), (4, .int s0), (0, .ref (a 0)), (1, .int y1)]) hx hb dX5_isNarrow_97 hl (k := 4) rfl rfl (by decide) rfl (fun ls hl => ?_)
              refine lv_goto (tgt := 4) hx hb dX5_isNarrow_100 (by decide) ?_
              exact ih4 y1 (1 : Int32) (y3 + 1) _ _ ls h hP hD hS (lv_sub hl [3, 4, 1, 0] rfl)
      have w53 : ∀ (y1 y2 y3 : Int32) (H : Heap) (locs : List Loc) (ls : Array Slot), F_X5_isNarrow_53 (F_X5_isNarrow_4 n4) M y1 y2 y3 = some res → va_P D classes (wX5 a cI cC cO M) H → va_D A (wX5 a cI cC cO M) → va_S A s.heap H locs → lv_has ls 5 [(0, .ref (a 0)), (1, .int y1), (2, .int y2), (3, .int y3)] → W p l e ({ frames := 2, cells := 0, slots := 0, locals := 45 } : Room) s m ([.ref (a 0), .int x1] : List Value).toArray below meth c H locs 0 0 (MQ below (QI D cI cC cO A (wX5 a cI cC cO M) res) ([.ref (a 0), .int x1] : List Value).toArray s 0 0 A) (F0 m 53 ls []) := by
        intro y1 y2 y3 H locs ls h hP hD hS hl
        unfold F_X5_isNarrow_53 at h
        refine lv_iconst (v := (0 : Int32)) hx hb dX5_isNarrow_53 (by decide) ?_
        exact w54 y1 y2 y3 (0 : Int32) _ _ ls h hP hD hS (lv_sub hl [0, 1, 2, 3] rfl)
      intro y1 y2 y3 H locs ls h hP hD hS hl
      have h : F_X5_isNarrowB_4 (F_X5_isNarrow_4 n4) M y1 y2 y3 = some res := h
      unfold F_X5_isNarrowB_4 at h
      refine lv_iload_n hx hb dX5_isNarrow_4 rfl (lv_at hl 3 rfl) ?_
      refine lv_aload_n hx hb dX5_isNarrow_5 rfl (lv_at hl 0 rfl) ?_
      refine va_get (D := D) (ci := 5) (v := .int (M 12 5)) (C := RX5) (T := TX5) (N := 23) hx hb ht i_X5 hown hK hP 0 rfl rfl 17 (by decide) (ht _ wd_553) (fun _ h9 => h9) rfl dX5_isNarrow_6 ?_
      refine lv_icmp_gt (tgt := 103) hx hb dX5_isNarrow_9 (by decide) (fun c1 => ?_) (fun c1 => ?_)
      · replace h := fp c1 h
        refine lv_iload_n hx hb dX5_isNarrow_103 rfl (lv_at hl 2 rfl) ?_
        obtain ⟨z2, h⟩ := cz_ok h
        cases h
        exact rt_z hx hb hr (nz z2) hlocks hS hP hK hD dX5_isNarrow_104
      · replace h := fn c1 h
        refine lv_aload_n hx hb dX5_isNarrow_12 rfl (lv_at hl 0 rfl) ?_
        refine lv_iload_n hx hb dX5_isNarrow_13 rfl (lv_at hl 1 rfl) ?_
        refine lv_iconst (v := (0 : Int32)) hx hb dX5_isNarrow_14 (by decide) ?_
        obtain ⟨u3, e4, h⟩ := b1_ok h
        refine cl_Vi (ws' := (wX5 a cI cC cO M)) ⟨hx, hb, hml, hown, ht⟩ (c_X5_pi l D cI cC cO a M y1 (0 : Int32) _ _ e4) (cwv 2 ht wd_678 wd_6 wd_675 wd_677 ws_28 (by decide +kernel) rfl rfl ⟨Nat.le_of_ble_eq_true rfl, Nat.le_of_ble_eq_true rfl⟩) 5 0 rfl rfl rfl hK hP hD hS hA hN [0, 1, 2, 3, 4, 5, 6, 7, 8, 9, 10, 11, 12] [] [0, 1, 2, 3, 4, 5, 6, 7, 8, 9, 10, 11, 12] (by decide) rfl rfl (by decide) (by decide) rfl (by decide) rfl hl.1 rfl (Nat.le_of_ble_eq_true rfl) dX5_isNarrow_15 ⟨Nat.le_of_ble_eq_true rfl, Nat.le_of_ble_eq_true rfl⟩ (fun H locs hP hD hS => ?_)
        refine lv_if_eq (tgt := 53) hx hb dX5_isNarrow_18 (by decide) (fun c5 => ?_) (fun c5 => ?_)
        · replace h := fp c5 h
          exact w53 y1 y2 y3 _ _ ls h hP hD hS (lv_sub hl [0, 1, 2, 3] rfl)
        · replace h := fn c5 h
          refine lv_aload_n hx hb dX5_isNarrow_21 rfl (lv_at hl 0 rfl) ?_
          refine lv_iload_n hx hb dX5_isNarrow_22 rfl (lv_at hl 1 rfl) ?_
          refine lv_iload_n hx hb dX5_isNarrow_23 rfl (lv_at hl 3 rfl) ?_
          obtain ⟨u6, e7, h⟩ := b1_ok h
          refine cl_Vi (ws' := (wX5 a cI cC cO M)) ⟨hx, hb, hml, hown, ht⟩ (c_X5_isOpen l D cI cC cO a M y1 y3 _ _ e7) (cwv 2 ht wd_724 wd_6 wd_721 wd_723 ws_37 (by decide +kernel) rfl rfl ⟨Nat.le_of_ble_eq_true rfl, Nat.le_of_ble_eq_true rfl⟩) 5 0 rfl rfl rfl hK hP hD hS hA hN [0, 1, 2, 3, 4, 5, 6, 7, 8, 9, 10, 11, 12] [] [0, 1, 2, 3, 4, 5, 6, 7, 8, 9, 10, 11, 12] (by decide) rfl rfl (by decide) (by decide) rfl (by decide) rfl hl.1 rfl (Nat.le_of_ble_eq_true rfl) dX5_isNarrow_24 ⟨Nat.le_of_ble_eq_true rfl, Nat.le_of_ble_eq_true rfl⟩ (fun H locs hP hD hS => ?_)
          refine lv_if_eq (tgt := 53) hx hb dX5_isNarrow_27 (by decide) (fun c8 => ?_) (fun c8 => ?_)
          · replace h := fp c8 h
            exact w53 y1 y2 y3 _ _ ls h hP hD hS (lv_sub hl [0, 1, 2, 3] rfl)
          · replace h := fn c8 h
            refine lv_aload_n hx hb dX5_isNarrow_30 rfl (lv_at hl 0 rfl) ?_
            refine va_get (D := D) (ci := 5) (v := .ref (a 10)) (C := RX5) (T := TX5) (N := 23) hx hb ht i_X5 hown hK hP 0 rfl rfl 14 (by decide) (ht _ wd_550) (fun _ h9 => h9) rfl dX5_isNarrow_31 ?_
            refine lv_bipush (v := (16 : Int32)) hx hb dX5_isNarrow_34 (by decide) ?_
            refine lv_aload_n hx hb dX5_isNarrow_36 rfl (lv_at hl 0 rfl) ?_
            refine lv_iload_n hx hb dX5_isNarrow_37 rfl (lv_at hl 1 rfl) ?_
            refine lv_iconst (v := (0 : Int32)) hx hb dX5_isNarrow_38 (by decide) ?_
            obtain ⟨u9, e10, h⟩ := b1_ok h
            refine cl_Vi (ws' := (wX5 a cI cC cO M)) ⟨hx, hb, hml, hown, ht⟩ (c_X5_pi l D cI cC cO a M y1 (0 : Int32) _ _ e10) (cwv 2 ht wd_678 wd_6 wd_675 wd_677 ws_28 (by decide +kernel) rfl rfl ⟨Nat.le_of_ble_eq_true rfl, Nat.le_of_ble_eq_true rfl⟩) 5 0 rfl rfl rfl hK hP hD hS hA hN [0, 1, 2, 3, 4, 5, 6, 7, 8, 9, 10, 11, 12] [] [0, 1, 2, 3, 4, 5, 6, 7, 8, 9, 10, 11, 12] (by decide) rfl rfl (by decide) (by decide) rfl (by decide) rfl hl.1 rfl (Nat.le_of_ble_eq_true rfl) dX5_isNarrow_39 ⟨Nat.le_of_ble_eq_true rfl, Nat.le_of_ble_eq_true rfl⟩ (fun H locs hP hD hS => ?_)
            refine lv_imul hx hb dX5_isNarrow_42 ?_
            refine lv_iload_n hx hb dX5_isNarrow_43 rfl (lv_at hl 3 rfl) ?_
            refine lv_iadd hx hb dX5_isNarrow_44 ?_
            obtain ⟨i11, h⟩ := ck_ok h
            refine va_iald hx hb hK hP 10 0 rfl rfl i11 dX5_isNarrow_45 ?_
            refine lv_if_lt (tgt := 53) hx hb dX5_isNarrow_46 (by decide) (fun c12 => ?_) (fun c12 => ?_)
            · replace h := fp c12 h
              exact w53 y1 y2 y3 _ _ ls h hP hD hS (lv_sub hl [0, 1, 2, 3] rfl)
            · replace h := fn c12 h
              refine lv_iconst (v := (1 : Int32)) hx hb dX5_isNarrow_49 (by decide) ?_
              refine lv_goto (tgt := 54) hx hb dX5_isNarrow_50 (by decide) ?_
              exact w54 y1 y2 y3 (1 : Int32) _ _ ls h hP hD hS (lv_sub hl [0, 1, 2, 3] rfl)
  unfold F_X5_isNarrow at h
  refine lv_iconst (v := (0 : Int32)) hx hb dX5_isNarrow_0 (by decide) ?_
  refine lv_istore_n (lv' := [(2, .int (0 : Int32)), (0, .ref (a 0)), (1, .int x1)]) hx hb dX5_isNarrow_1 rfl hl (by decide) rfl (fun ls hl => ?_)
  refine lv_iconst (v := (0 : Int32)) hx hb dX5_isNarrow_2 (by decide) ?_
  refine lv_istore_n (lv' := [(3, .int (0 : Int32)), (2, .int (0 : Int32)), (0, .ref (a 0)), (1, .int x1)]) hx hb dX5_isNarrow_3 rfl hl (by decide) rfl (fun ls hl => ?_)
  exact w4 FU x1 (0 : Int32) (0 : Int32) _ _ ls h hP hD hS (lv_sub hl [2, 3, 1, 0] rfl)
theorem dX5_narrow_0 : decode cX5_narrow 0 = .ok (.iload_n 1, 1) := by decide +kernel
theorem dX5_narrow_1 : decode cX5_narrow 1 = .ok (.iconst 0, 1) := by decide +kernel
theorem dX5_narrow_2 : decode cX5_narrow 2 = .ok (.bipush 15, 2) := by decide +kernel
theorem dX5_narrow_4 : decode cX5_narrow 4 = .ok (.invokestatic 63, 3) := by decide +kernel
theorem dX5_narrow_7 : decode cX5_narrow 7 = .ok (.ifCond .ne 6, 3) := by decide +kernel
theorem dX5_narrow_10 : decode cX5_narrow 10 = .ok (.ldc 67, 2) := by decide +kernel
theorem dX5_narrow_12 : decode cX5_narrow 12 = .ok (.ireturn, 1) := by decide +kernel
theorem dX5_narrow_13 : decode cX5_narrow 13 = .ok (.aload_n 0, 1) := by decide +kernel
theorem dX5_narrow_14 : decode cX5_narrow 14 = .ok (.iload_n 1, 1) := by decide +kernel
theorem dX5_narrow_15 : decode cX5_narrow 15 = .ok (.invokevirtual 143, 3) := by decide +kernel
theorem dX5_narrow_18 : decode cX5_narrow 18 = .ok (.pop, 1) := by decide +kernel
theorem dX5_narrow_19 : decode cX5_narrow 19 = .ok (.iconst 0, 1) := by decide +kernel
theorem dX5_narrow_20 : decode cX5_narrow 20 = .ok (.istore_n 2, 1) := by decide +kernel
theorem dX5_narrow_21 : decode cX5_narrow 21 = .ok (.iconst 0, 1) := by decide +kernel
theorem dX5_narrow_22 : decode cX5_narrow 22 = .ok (.istore_n 3, 1) := by decide +kernel
theorem dX5_narrow_23 : decode cX5_narrow 23 = .ok (.iload_n 3, 1) := by decide +kernel
theorem dX5_narrow_24 : decode cX5_narrow 24 = .ok (.aload_n 0, 1) := by decide +kernel
theorem dX5_narrow_25 : decode cX5_narrow 25 = .ok (.getfield 7, 3) := by decide +kernel
theorem dX5_narrow_28 : decode cX5_narrow 28 = .ok (.iconst 1, 1) := by decide +kernel
theorem dX5_narrow_29 : decode cX5_narrow 29 = .ok (.iaload, 1) := by decide +kernel
theorem dX5_narrow_30 : decode cX5_narrow 30 = .ok (.if_icmp .ge 27, 3) := by decide +kernel
theorem dX5_narrow_33 : decode cX5_narrow 33 = .ok (.iload_n 2, 1) := by decide +kernel
theorem dX5_narrow_34 : decode cX5_narrow 34 = .ok (.aload_n 0, 1) := by decide +kernel
theorem dX5_narrow_35 : decode cX5_narrow 35 = .ok (.iload_n 3, 1) := by decide +kernel
theorem dX5_narrow_36 : decode cX5_narrow 36 = .ok (.invokevirtual 150, 3) := by decide +kernel
theorem dX5_narrow_39 : decode cX5_narrow 39 = .ok (.ifCond .eq 9, 3) := by decide +kernel
theorem dX5_narrow_42 : decode cX5_narrow 42 = .ok (.iconst 1, 1) := by decide +kernel
theorem dX5_narrow_43 : decode cX5_narrow 43 = .ok (.iload_n 3, 1) := by decide +kernel
theorem dX5_narrow_44 : decode cX5_narrow 44 = .ok (.ishl, 1) := by decide +kernel
theorem dX5_narrow_45 : decode cX5_narrow 45 = .ok (.goto 4, 3) := by decide +kernel
theorem dX5_narrow_48 : decode cX5_narrow 48 = .ok (.iconst 0, 1) := by decide +kernel
theorem dX5_narrow_49 : decode cX5_narrow 49 = .ok (.ior, 1) := by decide +kernel
theorem dX5_narrow_50 : decode cX5_narrow 50 = .ok (.istore_n 2, 1) := by decide +kernel
theorem dX5_narrow_51 : decode cX5_narrow 51 = .ok (.iinc 3 1, 3) := by decide +kernel
theorem dX5_narrow_54 : decode cX5_narrow 54 = .ok (.goto (-31), 3) := by decide +kernel
theorem dX5_narrow_57 : decode cX5_narrow 57 = .ok (.iload_n 2, 1) := by decide +kernel
theorem dX5_narrow_58 : decode cX5_narrow 58 = .ok (.ireturn, 1) := by decide +kernel
set_option maxHeartbeats 4000000 in
set_option maxRecDepth 100000 in
theorem c_X5_narrow (l : Launch) (D : va_G) (cI cC cO : ClassId) (a : Nat → Nat) (M : Mm) (x1 : Int32) (res : Int32 × Mm) (sz : Nat) (h : F_X5_narrow M x1 = some res) : Met l yX5_narrow (Cond.code yX5_narrow cX5_narrow 4 (Option.some Jvm.ClassFile.FieldType.int) :: lw_g) ({ frames := 5, cells := 0, slots := 0, locals := 114 } : Room) (va_Pc [.ref (a 0), .int x1] (pS D cI cC cO sz (wX5 a cI cC cO M))) (QI D cI cC cO (va_A (wX5 a cI cC cO M) sz) (wX5 a cI cC cO res.2) res.1) 0 0 (va_A (wX5 a cI cC cO M) sz) := by
  refine Met.ofW (cc := cX5_narrow) (maxL := 4) (ret := (Option.some Jvm.ClassFile.FieldType.int)) (by decide) rfl ?_
  intro p e s m args below meth c s₁ B hml hv
  obtain ⟨rfl, rfl, hP, hK, hD0, hN⟩ := hv
  have hx := B.exec
  have hb := B.bytes
  have hr := B.returns
  have ht : ∀ w ∈ lw_g, w.before ([.ref (a 0), .int x1] : List Value).toArray s = true := fun w hw => atoms_spec (ws := Cond.code yX5_narrow cX5_narrow 4 (Option.some Jvm.ClassFile.FieldType.int) :: lw_g) B.pre w (List.mem_cons_of_mem _ hw)
  have hown : s.vm.findClass RX5 = some m.cls := findClass_of_methodNamed B.named
  have hlocks := B.notSynchronized
  have hD := hD0.self (sz := s.heap.size)
  generalize hAe : va_A (wX5 a cI cC cO M) s.heap.size = A at hD ⊢
  have hA : ∀ q : Nat, s.heap.size ≤ q → A q := fun q hq => by rw [← hAe]; exact Or.inr hq
  have hS : va_S A s.heap s.heap [] := va_S.rf
  have hl := lv_entry ([.ref (a 0), .int x1]) (n := 4) (Nat.le_of_ble_eq_true rfl)
  rw [lg_entry_eq]
  generalize (lg_sl ([.ref (a 0), .int x1]) ++ List.replicate (4 - (lg_sl ([.ref (a 0), .int x1])).length) Slot.unset).toArray = ls at hl ⊢
  have hl : lv_has ls 4 [(0, .ref (a 0)), (1, .int x1)] := hl
  have w23 : ∀ (n23 : Nat) (M : Mm) (y2 y3 : Int32) (H : Heap) (locs : List Loc) (ls : Array Slot), F_X5_narrow_23 n23 M y2 y3 = some res → va_P D classes (wX5 a cI cC cO M) H → va_D A (wX5 a cI cC cO M) → va_S A s.heap H locs → lv_has ls 4 [(0, .ref (a 0)), (2, .int y2), (3, .int y3)] → W p l e ({ frames := 5, cells := 0, slots := 0, locals := 114 } : Room) s m ([.ref (a 0), .int x1] : List Value).toArray below meth c H locs 0 0 (MQ below (QI D cI cC cO A (wX5 a cI cC cO res.2) res.1) ([.ref (a 0), .int x1] : List Value).toArray s 0 0 A) (F0 m 23 ls []) := by
    intro n23
    induction n23 with
    | zero => intro M y2 y3 H locs ls h hP hD hS hl; exact absurd (show (none : Option (Int32 × Mm)) = some res from h) (by simp)
    | succ n23 ih23 =>
      intro M y2 y3 H locs ls h hP hD hS hl
      have h : F_X5_narrowB_23 (F_X5_narrow_23 n23) M y2 y3 = some res := h
      unfold F_X5_narrowB_23 at h
      refine lv_iload_n hx hb dX5_narrow_23 rfl (lv_at hl 2 rfl) ?_
      refine lv_aload_n hx hb dX5_narrow_24 rfl (lv_at hl 0 rfl) ?_
      refine va_get (D := D) (ci := 5) (v := .ref (a 1)) (C := RX5) (T := TX5) (N := 23) hx hb ht i_X5 hown hK hP 0 rfl rfl 0 (by decide) (ht _ wd_536) (fun _ h9 => h9) rfl dX5_narrow_25 ?_
      refine lv_iconst (v := (1 : Int32)) hx hb dX5_narrow_28 (by decide) ?_
      obtain ⟨i1, h⟩ := ck_ok h
      refine va_iald hx hb hK hP 1 0 rfl rfl i1 dX5_narrow_29 ?_
      refine lv_icmp_ge (tgt := 57) hx hb dX5_narrow_30 (by decide) (fun c2 => ?_) (fun c2 => ?_)
      · replace h := fp c2 h
        refine lv_iload_n hx hb dX5_narrow_57 rfl (lv_at hl 1 rfl) ?_
        cases h
        exact rt_i hx hb hr hlocks hS hP hK hD dX5_narrow_58
      · replace h := fn c2 h
        refine lv_iload_n hx hb dX5_narrow_33 rfl (lv_at hl 1 rfl) ?_
        refine lv_aload_n hx hb dX5_narrow_34 rfl (lv_at hl 0 rfl) ?_
        refine lv_iload_n hx hb dX5_narrow_35 rfl (lv_at hl 2 rfl) ?_
        obtain ⟨u3, e4, h⟩ := b1_ok h
        refine cl_Vi (ws' := (wX5 a cI cC cO M)) ⟨hx, hb, hml, hown, ht⟩ (c_X5_isNarrow l D cI cC cO a M y3 _ _ e4) (cwv 1 ht wd_748 wd_6 wd_745 wd_747 ws_40 (by decide +kernel) rfl rfl ⟨Nat.le_of_ble_eq_true rfl, Nat.le_of_ble_eq_true rfl⟩) 5 0 rfl rfl rfl hK hP hD hS hA hN [0, 1, 2, 3, 4, 5, 6, 7, 8, 9, 10, 11, 12] [] [0, 1, 2, 3, 4, 5, 6, 7, 8, 9, 10, 11, 12] (by decide) rfl rfl (by decide) (by decide) rfl (by decide) rfl hl.1 rfl (Nat.le_of_ble_eq_true rfl) dX5_narrow_36 ⟨Nat.le_of_ble_eq_true rfl, Nat.le_of_ble_eq_true rfl⟩ (fun H locs hP hD hS => ?_)
        refine lv_if_eq (tgt := 48) hx hb dX5_narrow_39 (by decide) (fun c5 => ?_) (fun c5 => ?_)
        · replace h := fp c5 h
          refine lv_iconst (v := (0 : Int32)) hx hb dX5_narrow_48 (by decide) ?_
          refine lv_ior hx hb dX5_narrow_49 ?_
          refine lv_istore_n (lv' := [(2, .int (y2 ||| (0 : Int32))), (0, .ref (a 0)), (3, .int y3)]) hx hb dX5_narrow_50 rfl hl (by decide) rfl (fun ls hl => ?_)
          refine lv_iinc (v := (y3 + 1)) (lv' := [(3, .int (y3 + 1)), (2, .int (y2 ||| (0 : Int32))), (0, .ref (a 0))]) hx hb dX5_narrow_51 hl (k := 2) rfl rfl (by decide) rfl (fun ls hl => ?_)
          refine lv_goto (tgt := 23) hx hb dX5_narrow_54 (by decide) ?_
          exact ih23 M (y2 ||| (0 : Int32)) (y3 + 1) _ _ ls h hP hD hS (lv_sub hl [2, 1, 0] rfl)
        · replace h := fn c5 h
          refine lv_iconst (v := (1 : Int32)) hx hb dX5_narrow_42 (by decide) ?_
          refine lv_iload_n hx hb dX5_narrow_43 rfl (lv_at hl 2 rfl) ?_
          refine lv_ishl hx hb dX5_narrow_44 ?_
          refine lv_goto (tgt := 49) hx hb dX5_narrow_45 (by decide) ?_
          refine lv_ior hx hb dX5_narrow_49 ?_
          refine lv_istore_n (lv' := [(2, .int (y2 ||| ((1 : Int32) <<< (y3 &&& 31)))), (0, .ref (a 0)), (3, .int y3)]) hx hb dX5_narrow_50 rfl hl (by decide) rfl (fun ls hl => ?_)
          refine lv_iinc (v := (y3 + 1)) (lv' := [(3, .int (y3 + 1)), (2, .int (y2 ||| ((1 : Int32) <<< (y3 &&& 31)))), (0, .ref (a 0))]) hx hb dX5_narrow_51 hl (k := 2) rfl rfl (by decide) rfl (fun ls hl => ?_)
          refine lv_goto (tgt := 23) hx hb dX5_narrow_54 (by decide) ?_
          exact ih23 M (y2 ||| ((1 : Int32) <<< (y3 &&& 31))) (y3 + 1) _ _ ls h hP hD hS (lv_sub hl [2, 1, 0] rfl)
  unfold F_X5_narrow at h
  refine lv_iload_n hx hb dX5_narrow_0 rfl (lv_at hl 1 rfl) ?_
  refine lv_iconst (v := (0 : Int32)) hx hb dX5_narrow_1 (by decide) ?_
  refine lv_bipush (v := (15 : Int32)) hx hb dX5_narrow_2 (by decide) ?_
  obtain ⟨u1, e2, h⟩ := b1_ok h
  refine cl_Si (ws' := (wX5 a cI cC cO M)) ⟨hx, hb, hml, hown, ht⟩ (c_X5_in l D cI cC cO x1 (0 : Int32) (15 : Int32) _ _ e2) (cwst 3 ht wd_612 wd_6 wd_610 wd_611 (by decide +kernel) rfl rfl ⟨Nat.le_of_ble_eq_true rfl, Nat.le_of_ble_eq_true rfl⟩) hK hP hD hS hA hN [] [0, 1, 2, 3, 4, 5, 6, 7, 8, 9, 10, 11, 12] [0, 1, 2, 3, 4, 5, 6, 7, 8, 9, 10, 11, 12] (by decide) rfl rfl (by decide) (by decide) rfl (by decide) rfl hl.1 rfl (Nat.le_of_ble_eq_true rfl) dX5_narrow_4 ⟨Nat.le_of_ble_eq_true rfl, Nat.le_of_ble_eq_true rfl⟩ (fun H locs hP hD hS => ?_)
  refine lv_if_ne (tgt := 13) hx hb dX5_narrow_7 (by decide) (fun c3 => ?_) (fun c3 => ?_)
  · replace h := fn c3 h
    refine lv_aload_n hx hb dX5_narrow_13 rfl (lv_at hl 0 rfl) ?_
    refine lv_iload_n hx hb dX5_narrow_14 rfl (lv_at hl 1 rfl) ?_
    obtain ⟨u4, M5, e6, h⟩ := b2_ok h
    refine cl_Vi (ws' := (wX5 a cI cC cO M5)) ⟨hx, hb, hml, hown, ht⟩ (c_X5_comes l D cI cC cO a M x1 _ _ e6) (cwv 1 ht wd_699 wd_6 wd_696 wd_698 ws_31 (by decide +kernel) rfl rfl ⟨Nat.le_of_ble_eq_true rfl, Nat.le_of_ble_eq_true rfl⟩) 5 0 rfl rfl rfl hK hP hD hS hA hN [0, 1, 2, 3, 4, 5, 6, 7, 8, 9, 10, 11, 12] [] [0, 1, 2, 3, 4, 5, 6, 7, 8, 9, 10, 11, 12] (by decide) rfl rfl (by decide) (by decide) rfl (by decide) rfl hl.1 rfl (Nat.le_of_ble_eq_true rfl) dX5_narrow_15 ⟨Nat.le_of_ble_eq_true rfl, Nat.le_of_ble_eq_true rfl⟩ (fun H locs hP hD hS => ?_)
    refine lv_pop hx hb dX5_narrow_18 rfl ?_
    refine lv_iconst (v := (0 : Int32)) hx hb dX5_narrow_19 (by decide) ?_
    refine lv_istore_n (lv' := [(2, .int (0 : Int32)), (0, .ref (a 0)), (1, .int x1)]) hx hb dX5_narrow_20 rfl hl (by decide) rfl (fun ls hl => ?_)
    refine lv_iconst (v := (0 : Int32)) hx hb dX5_narrow_21 (by decide) ?_
    refine lv_istore_n (lv' := [(3, .int (0 : Int32)), (2, .int (0 : Int32)), (0, .ref (a 0)), (1, .int x1)]) hx hb dX5_narrow_22 rfl hl (by decide) rfl (fun ls hl => ?_)
    exact w23 FU M5 (0 : Int32) (0 : Int32) _ _ ls h hP hD hS (lv_sub hl [2, 1, 0] rfl)
  · replace h := fp c3 h
    refine lv_ldc hx hb hown (ht _ wd_613) dX5_narrow_10 ?_
    cases h
    exact rt_i hx hb hr hlocks hS hP hK hD dX5_narrow_12
theorem dX5_wanting_0 : decode cX5_wanting 0 = .ok (.iload_n 1, 1) := by decide +kernel
theorem dX5_wanting_1 : decode cX5_wanting 1 = .ok (.iconst 0, 1) := by decide +kernel
theorem dX5_wanting_2 : decode cX5_wanting 2 = .ok (.bipush 15, 2) := by decide +kernel
theorem dX5_wanting_4 : decode cX5_wanting 4 = .ok (.invokestatic 63, 3) := by decide +kernel
theorem dX5_wanting_7 : decode cX5_wanting 7 = .ok (.ifCond .eq 20, 3) := by decide +kernel
theorem dX5_wanting_10 : decode cX5_wanting 10 = .ok (.aload_n 0, 1) := by decide +kernel
theorem dX5_wanting_11 : decode cX5_wanting 11 = .ok (.iload_n 2, 1) := by decide +kernel
theorem dX5_wanting_12 : decode cX5_wanting 12 = .ok (.invokevirtual 83, 3) := by decide +kernel
theorem dX5_wanting_15 : decode cX5_wanting 15 = .ok (.ifCond .eq 12, 3) := by decide +kernel
theorem dX5_wanting_18 : decode cX5_wanting 18 = .ok (.iload_n 3, 1) := by decide +kernel
theorem dX5_wanting_19 : decode cX5_wanting 19 = .ok (.iconst 0, 1) := by decide +kernel
theorem dX5_wanting_20 : decode cX5_wanting 20 = .ok (.iload_n 1, 1) := by decide +kernel
theorem dX5_wanting_21 : decode cX5_wanting 21 = .ok (.invokestatic 63, 3) := by decide +kernel
theorem dX5_wanting_24 : decode cX5_wanting 24 = .ok (.ifCond .ne 6, 3) := by decide +kernel
theorem dX5_wanting_27 : decode cX5_wanting 27 = .ok (.ldc 67, 2) := by decide +kernel
theorem dX5_wanting_29 : decode cX5_wanting 29 = .ok (.ireturn, 1) := by decide +kernel
theorem dX5_wanting_30 : decode cX5_wanting 30 = .ok (.aload_n 0, 1) := by decide +kernel
theorem dX5_wanting_31 : decode cX5_wanting 31 = .ok (.iload_n 1, 1) := by decide +kernel
theorem dX5_wanting_32 : decode cX5_wanting 32 = .ok (.invokevirtual 143, 3) := by decide +kernel
theorem dX5_wanting_35 : decode cX5_wanting 35 = .ok (.pop, 1) := by decide +kernel
theorem dX5_wanting_36 : decode cX5_wanting 36 = .ok (.aload_n 0, 1) := by decide +kernel
theorem dX5_wanting_37 : decode cX5_wanting 37 = .ok (.getfield 38, 3) := by decide +kernel
theorem dX5_wanting_40 : decode cX5_wanting 40 = .ok (.bipush 16, 2) := by decide +kernel
theorem dX5_wanting_42 : decode cX5_wanting 42 = .ok (.iload_n 2, 1) := by decide +kernel
theorem dX5_wanting_43 : decode cX5_wanting 43 = .ok (.imul, 1) := by decide +kernel
theorem dX5_wanting_44 : decode cX5_wanting 44 = .ok (.iload_n 3, 1) := by decide +kernel
theorem dX5_wanting_45 : decode cX5_wanting 45 = .ok (.iadd, 1) := by decide +kernel
theorem dX5_wanting_46 : decode cX5_wanting 46 = .ok (.iaload, 1) := by decide +kernel
theorem dX5_wanting_47 : decode cX5_wanting 47 = .ok (.ifCond .lt 7, 3) := by decide +kernel
theorem dX5_wanting_50 : decode cX5_wanting 50 = .ok (.iconst 1, 1) := by decide +kernel
theorem dX5_wanting_51 : decode cX5_wanting 51 = .ok (.goto 4, 3) := by decide +kernel
theorem dX5_wanting_54 : decode cX5_wanting 54 = .ok (.iconst 0, 1) := by decide +kernel
theorem dX5_wanting_55 : decode cX5_wanting 55 = .ok (.ireturn, 1) := by decide +kernel
set_option maxHeartbeats 4000000 in
set_option maxRecDepth 100000 in
theorem c_X5_wanting (l : Launch) (D : va_G) (cI cC cO : ClassId) (a : Nat → Nat) (M : Mm) (x1 x2 x3 : Int32) (res : Int32 × Mm) (sz : Nat) (h : F_X5_wanting M x1 x2 x3 = some res) : Met l yX5_wanting (Cond.code yX5_wanting cX5_wanting 4 (Option.some Jvm.ClassFile.FieldType.int) :: lw_g) ({ frames := 5, cells := 0, slots := 0, locals := 114 } : Room) (va_Pc [.ref (a 0), .int x1, .int x2, .int x3] (pS D cI cC cO sz (wX5 a cI cC cO M))) (QI D cI cC cO (va_A (wX5 a cI cC cO M) sz) (wX5 a cI cC cO res.2) res.1) 0 0 (va_A (wX5 a cI cC cO M) sz) := by
  refine Met.ofW (cc := cX5_wanting) (maxL := 4) (ret := (Option.some Jvm.ClassFile.FieldType.int)) (by decide) rfl ?_
  intro p e s m args below meth c s₁ B hml hv
  obtain ⟨rfl, rfl, hP, hK, hD0, hN⟩ := hv
  have hx := B.exec
  have hb := B.bytes
  have hr := B.returns
  have ht : ∀ w ∈ lw_g, w.before ([.ref (a 0), .int x1, .int x2, .int x3] : List Value).toArray s = true := fun w hw => atoms_spec (ws := Cond.code yX5_wanting cX5_wanting 4 (Option.some Jvm.ClassFile.FieldType.int) :: lw_g) B.pre w (List.mem_cons_of_mem _ hw)
  have hown : s.vm.findClass RX5 = some m.cls := findClass_of_methodNamed B.named
  have hlocks := B.notSynchronized
  have hD := hD0.self (sz := s.heap.size)
  generalize hAe : va_A (wX5 a cI cC cO M) s.heap.size = A at hD ⊢
  have hA : ∀ q : Nat, s.heap.size ≤ q → A q := fun q hq => by rw [← hAe]; exact Or.inr hq
  have hS : va_S A s.heap s.heap [] := va_S.rf
  have hl := lv_entry ([.ref (a 0), .int x1, .int x2, .int x3]) (n := 4) (Nat.le_of_ble_eq_true rfl)
  rw [lg_entry_eq]
  generalize (lg_sl ([.ref (a 0), .int x1, .int x2, .int x3]) ++ List.replicate (4 - (lg_sl ([.ref (a 0), .int x1, .int x2, .int x3])).length) Slot.unset).toArray = ls at hl ⊢
  have hl : lv_has ls 4 [(0, .ref (a 0)), (1, .int x1), (2, .int x2), (3, .int x3)] := hl
  unfold F_X5_wanting at h
  refine lv_iload_n hx hb dX5_wanting_0 rfl (lv_at hl 1 rfl) ?_
  refine lv_iconst (v := (0 : Int32)) hx hb dX5_wanting_1 (by decide) ?_
  refine lv_bipush (v := (15 : Int32)) hx hb dX5_wanting_2 (by decide) ?_
  obtain ⟨u1, e2, h⟩ := b1_ok h
  refine cl_Si (ws' := (wX5 a cI cC cO M)) ⟨hx, hb, hml, hown, ht⟩ (c_X5_in l D cI cC cO x1 (0 : Int32) (15 : Int32) _ _ e2) (cwst 3 ht wd_612 wd_6 wd_610 wd_611 (by decide +kernel) rfl rfl ⟨Nat.le_of_ble_eq_true rfl, Nat.le_of_ble_eq_true rfl⟩) hK hP hD hS hA hN [] [0, 1, 2, 3, 4, 5, 6, 7, 8, 9, 10, 11, 12] [0, 1, 2, 3, 4, 5, 6, 7, 8, 9, 10, 11, 12] (by decide) rfl rfl (by decide) (by decide) rfl (by decide) rfl hl.1 rfl (Nat.le_of_ble_eq_true rfl) dX5_wanting_4 ⟨Nat.le_of_ble_eq_true rfl, Nat.le_of_ble_eq_true rfl⟩ (fun H locs hP hD hS => ?_)
  refine lv_if_eq (tgt := 27) hx hb dX5_wanting_7 (by decide) (fun c3 => ?_) (fun c3 => ?_)
  · replace h := fp c3 h
    refine lv_ldc hx hb hown (ht _ wd_613) dX5_wanting_27 ?_
    cases h
    exact rt_i hx hb hr hlocks hS hP hK hD dX5_wanting_29
  · replace h := fn c3 h
    refine lv_aload_n hx hb dX5_wanting_10 rfl (lv_at hl 0 rfl) ?_
    refine lv_iload_n hx hb dX5_wanting_11 rfl (lv_at hl 2 rfl) ?_
    obtain ⟨u4, e5, h⟩ := b1_ok h
    refine cl_Vi (ws' := (wX5 a cI cC cO M)) ⟨hx, hb, hml, hown, ht⟩ (c_X5_isPlace l D cI cC cO a M x2 _ _ e5) (cwv 1 ht wd_634 wd_6 wd_631 wd_633 ws_23 (by decide +kernel) rfl rfl ⟨Nat.le_of_ble_eq_true rfl, Nat.le_of_ble_eq_true rfl⟩) 5 0 rfl rfl rfl hK hP hD hS hA hN [0, 1, 2, 3, 4, 5, 6, 7, 8, 9, 10, 11, 12] [] [0, 1, 2, 3, 4, 5, 6, 7, 8, 9, 10, 11, 12] (by decide) rfl rfl (by decide) (by decide) rfl (by decide) rfl hl.1 rfl (Nat.le_of_ble_eq_true rfl) dX5_wanting_12 ⟨Nat.le_of_ble_eq_true rfl, Nat.le_of_ble_eq_true rfl⟩ (fun H locs hP hD hS => ?_)
    refine lv_if_eq (tgt := 27) hx hb dX5_wanting_15 (by decide) (fun c6 => ?_) (fun c6 => ?_)
    · replace h := fp c6 h
      refine lv_ldc hx hb hown (ht _ wd_613) dX5_wanting_27 ?_
      cases h
      exact rt_i hx hb hr hlocks hS hP hK hD dX5_wanting_29
    · replace h := fn c6 h
      refine lv_iload_n hx hb dX5_wanting_18 rfl (lv_at hl 3 rfl) ?_
      refine lv_iconst (v := (0 : Int32)) hx hb dX5_wanting_19 (by decide) ?_
      refine lv_iload_n hx hb dX5_wanting_20 rfl (lv_at hl 1 rfl) ?_
      obtain ⟨u7, e8, h⟩ := b1_ok h
      refine cl_Si (ws' := (wX5 a cI cC cO M)) ⟨hx, hb, hml, hown, ht⟩ (c_X5_in l D cI cC cO x3 (0 : Int32) x1 _ _ e8) (cwst 3 ht wd_612 wd_6 wd_610 wd_611 (by decide +kernel) rfl rfl ⟨Nat.le_of_ble_eq_true rfl, Nat.le_of_ble_eq_true rfl⟩) hK hP hD hS hA hN [] [0, 1, 2, 3, 4, 5, 6, 7, 8, 9, 10, 11, 12] [0, 1, 2, 3, 4, 5, 6, 7, 8, 9, 10, 11, 12] (by decide) rfl rfl (by decide) (by decide) rfl (by decide) rfl hl.1 rfl (Nat.le_of_ble_eq_true rfl) dX5_wanting_21 ⟨Nat.le_of_ble_eq_true rfl, Nat.le_of_ble_eq_true rfl⟩ (fun H locs hP hD hS => ?_)
      refine lv_if_ne (tgt := 30) hx hb dX5_wanting_24 (by decide) (fun c9 => ?_) (fun c9 => ?_)
      · replace h := fn c9 h
        refine lv_aload_n hx hb dX5_wanting_30 rfl (lv_at hl 0 rfl) ?_
        refine lv_iload_n hx hb dX5_wanting_31 rfl (lv_at hl 1 rfl) ?_
        obtain ⟨u10, M11, e12, h⟩ := b2_ok h
        refine cl_Vi (ws' := (wX5 a cI cC cO M11)) ⟨hx, hb, hml, hown, ht⟩ (c_X5_comes l D cI cC cO a M x1 _ _ e12) (cwv 1 ht wd_699 wd_6 wd_696 wd_698 ws_31 (by decide +kernel) rfl rfl ⟨Nat.le_of_ble_eq_true rfl, Nat.le_of_ble_eq_true rfl⟩) 5 0 rfl rfl rfl hK hP hD hS hA hN [0, 1, 2, 3, 4, 5, 6, 7, 8, 9, 10, 11, 12] [] [0, 1, 2, 3, 4, 5, 6, 7, 8, 9, 10, 11, 12] (by decide) rfl rfl (by decide) (by decide) rfl (by decide) rfl hl.1 rfl (Nat.le_of_ble_eq_true rfl) dX5_wanting_32 ⟨Nat.le_of_ble_eq_true rfl, Nat.le_of_ble_eq_true rfl⟩ (fun H locs hP hD hS => ?_)
        refine lv_pop hx hb dX5_wanting_35 rfl ?_
        refine lv_aload_n hx hb dX5_wanting_36 rfl (lv_at hl 0 rfl) ?_
        refine va_get (D := D) (ci := 5) (v := .ref (a 10)) (C := RX5) (T := TX5) (N := 23) hx hb ht i_X5 hown hK hP 0 rfl rfl 14 (by decide) (ht _ wd_550) (fun _ h9 => h9) rfl dX5_wanting_37 ?_
        refine lv_bipush (v := (16 : Int32)) hx hb dX5_wanting_40 (by decide) ?_
        refine lv_iload_n hx hb dX5_wanting_42 rfl (lv_at hl 2 rfl) ?_
        refine lv_imul hx hb dX5_wanting_43 ?_
        refine lv_iload_n hx hb dX5_wanting_44 rfl (lv_at hl 3 rfl) ?_
        refine lv_iadd hx hb dX5_wanting_45 ?_
        obtain ⟨i13, h⟩ := ck_ok h
        refine va_iald hx hb hK hP 10 0 rfl rfl i13 dX5_wanting_46 ?_
        refine lv_if_lt (tgt := 54) hx hb dX5_wanting_47 (by decide) (fun c14 => ?_) (fun c14 => ?_)
        · replace h := fp c14 h
          refine lv_iconst (v := (0 : Int32)) hx hb dX5_wanting_54 (by decide) ?_
          cases h
          exact rt_i hx hb hr hlocks hS hP hK hD dX5_wanting_55
        · replace h := fn c14 h
          refine lv_iconst (v := (1 : Int32)) hx hb dX5_wanting_50 (by decide) ?_
          refine lv_goto (tgt := 55) hx hb dX5_wanting_51 (by decide) ?_
          cases h
          exact rt_i hx hb hr hlocks hS hP hK hD dX5_wanting_55
      · replace h := fp c9 h
        refine lv_ldc hx hb hown (ht _ wd_613) dX5_wanting_27 ?_
        cases h
        exact rt_i hx hb hr hlocks hS hP hK hD dX5_wanting_29
theorem dX5_dearest_0 : decode cX5_dearest 0 = .ok (.iload_n 1, 1) := by decide +kernel
theorem dX5_dearest_1 : decode cX5_dearest 1 = .ok (.iconst 0, 1) := by decide +kernel
theorem dX5_dearest_2 : decode cX5_dearest 2 = .ok (.bipush 15, 2) := by decide +kernel
theorem dX5_dearest_4 : decode cX5_dearest 4 = .ok (.invokestatic 63, 3) := by decide +kernel
theorem dX5_dearest_7 : decode cX5_dearest 7 = .ok (.ifCond .eq 12, 3) := by decide +kernel
theorem dX5_dearest_10 : decode cX5_dearest 10 = .ok (.iload_n 2, 1) := by decide +kernel
theorem dX5_dearest_11 : decode cX5_dearest 11 = .ok (.iconst 0, 1) := by decide +kernel
theorem dX5_dearest_12 : decode cX5_dearest 12 = .ok (.iconst 1, 1) := by decide +kernel
theorem dX5_dearest_13 : decode cX5_dearest 13 = .ok (.invokestatic 63, 3) := by decide +kernel
theorem dX5_dearest_16 : decode cX5_dearest 16 = .ok (.ifCond .ne 6, 3) := by decide +kernel
theorem dX5_dearest_19 : decode cX5_dearest 19 = .ok (.ldc 67, 2) := by decide +kernel
theorem dX5_dearest_21 : decode cX5_dearest 21 = .ok (.ireturn, 1) := by decide +kernel
theorem dX5_dearest_22 : decode cX5_dearest 22 = .ok (.ldc 104, 2) := by decide +kernel
theorem dX5_dearest_24 : decode cX5_dearest 24 = .ok (.istore_n 3, 1) := by decide +kernel
theorem dX5_dearest_25 : decode cX5_dearest 25 = .ok (.iconst 0, 1) := by decide +kernel
theorem dX5_dearest_26 : decode cX5_dearest 26 = .ok (.istore 4, 2) := by decide +kernel
theorem dX5_dearest_28 : decode cX5_dearest 28 = .ok (.iconst 0, 1) := by decide +kernel
theorem dX5_dearest_29 : decode cX5_dearest 29 = .ok (.istore 5, 2) := by decide +kernel
theorem dX5_dearest_31 : decode cX5_dearest 31 = .ok (.iload 5, 2) := by decide +kernel
theorem dX5_dearest_33 : decode cX5_dearest 33 = .ok (.aload_n 0, 1) := by decide +kernel
theorem dX5_dearest_34 : decode cX5_dearest 34 = .ok (.getfield 7, 3) := by decide +kernel
theorem dX5_dearest_37 : decode cX5_dearest 37 = .ok (.iconst 1, 1) := by decide +kernel
theorem dX5_dearest_38 : decode cX5_dearest 38 = .ok (.iaload, 1) := by decide +kernel
theorem dX5_dearest_39 : decode cX5_dearest 39 = .ok (.if_icmp .ge 66, 3) := by decide +kernel
theorem dX5_dearest_42 : decode cX5_dearest 42 = .ok (.aload_n 0, 1) := by decide +kernel
theorem dX5_dearest_43 : decode cX5_dearest 43 = .ok (.iload 5, 2) := by decide +kernel
theorem dX5_dearest_45 : decode cX5_dearest 45 = .ok (.putfield 50, 3) := by decide +kernel
theorem dX5_dearest_48 : decode cX5_dearest 48 = .ok (.aload_n 0, 1) := by decide +kernel
theorem dX5_dearest_49 : decode cX5_dearest 49 = .ok (.iload_n 1, 1) := by decide +kernel
theorem dX5_dearest_50 : decode cX5_dearest 50 = .ok (.invokevirtual 143, 3) := by decide +kernel
theorem dX5_dearest_53 : decode cX5_dearest 53 = .ok (.istore 6, 2) := by decide +kernel
theorem dX5_dearest_55 : decode cX5_dearest 55 = .ok (.iload_n 3, 1) := by decide +kernel
theorem dX5_dearest_56 : decode cX5_dearest 56 = .ok (.ifCond .lt 10, 3) := by decide +kernel
theorem dX5_dearest_59 : decode cX5_dearest 59 = .ok (.iload 6, 2) := by decide +kernel
theorem dX5_dearest_61 : decode cX5_dearest 61 = .ok (.iload 4, 2) := by decide +kernel
theorem dX5_dearest_63 : decode cX5_dearest 63 = .ok (.if_icmp .ge 7, 3) := by decide +kernel
theorem dX5_dearest_66 : decode cX5_dearest 66 = .ok (.iconst 1, 1) := by decide +kernel
theorem dX5_dearest_67 : decode cX5_dearest 67 = .ok (.goto 4, 3) := by decide +kernel
theorem dX5_dearest_70 : decode cX5_dearest 70 = .ok (.iconst 0, 1) := by decide +kernel
theorem dX5_dearest_71 : decode cX5_dearest 71 = .ok (.istore 7, 2) := by decide +kernel
theorem dX5_dearest_73 : decode cX5_dearest 73 = .ok (.iload 7, 2) := by decide +kernel
theorem dX5_dearest_75 : decode cX5_dearest 75 = .ok (.ifCond .eq 8, 3) := by decide +kernel
theorem dX5_dearest_78 : decode cX5_dearest 78 = .ok (.iload 5, 2) := by decide +kernel
theorem dX5_dearest_80 : decode cX5_dearest 80 = .ok (.goto 4, 3) := by decide +kernel
theorem dX5_dearest_83 : decode cX5_dearest 83 = .ok (.iload_n 3, 1) := by decide +kernel
theorem dX5_dearest_84 : decode cX5_dearest 84 = .ok (.istore_n 3, 1) := by decide +kernel
theorem dX5_dearest_85 : decode cX5_dearest 85 = .ok (.iload 7, 2) := by decide +kernel
theorem dX5_dearest_87 : decode cX5_dearest 87 = .ok (.ifCond .eq 8, 3) := by decide +kernel
theorem dX5_dearest_90 : decode cX5_dearest 90 = .ok (.iload 6, 2) := by decide +kernel
theorem dX5_dearest_92 : decode cX5_dearest 92 = .ok (.goto 5, 3) := by decide +kernel
theorem dX5_dearest_95 : decode cX5_dearest 95 = .ok (.iload 4, 2) := by decide +kernel
theorem dX5_dearest_97 : decode cX5_dearest 97 = .ok (.istore 4, 2) := by decide +kernel
theorem dX5_dearest_99 : decode cX5_dearest 99 = .ok (.iinc 5 1, 3) := by decide +kernel
theorem dX5_dearest_102 : decode cX5_dearest 102 = .ok (.goto (-71), 3) := by decide +kernel
theorem dX5_dearest_105 : decode cX5_dearest 105 = .ok (.aload_n 0, 1) := by decide +kernel
theorem dX5_dearest_106 : decode cX5_dearest 106 = .ok (.invokevirtual 47, 3) := by decide +kernel
theorem dX5_dearest_109 : decode cX5_dearest 109 = .ok (.iload_n 2, 1) := by decide +kernel
theorem dX5_dearest_110 : decode cX5_dearest 110 = .ok (.ifCond .eq 7, 3) := by decide +kernel
theorem dX5_dearest_113 : decode cX5_dearest 113 = .ok (.iload_n 3, 1) := by decide +kernel
theorem dX5_dearest_114 : decode cX5_dearest 114 = .ok (.ifCond .ge 7, 3) := by decide +kernel
theorem dX5_dearest_117 : decode cX5_dearest 117 = .ok (.iload_n 3, 1) := by decide +kernel
theorem dX5_dearest_118 : decode cX5_dearest 118 = .ok (.goto 5, 3) := by decide +kernel
theorem dX5_dearest_121 : decode cX5_dearest 121 = .ok (.iload 4, 2) := by decide +kernel
theorem dX5_dearest_123 : decode cX5_dearest 123 = .ok (.ireturn, 1) := by decide +kernel
set_option maxHeartbeats 4000000 in
set_option maxRecDepth 100000 in
theorem c_X5_dearest (l : Launch) (D : va_G) (cI cC cO : ClassId) (a : Nat → Nat) (M : Mm) (x1 x2 : Int32) (res : Int32 × Mm) (sz : Nat) (h : F_X5_dearest M x1 x2 = some res) : Met l yX5_dearest (Cond.code yX5_dearest cX5_dearest 8 (Option.some Jvm.ClassFile.FieldType.int) :: lw_g) ({ frames := 5, cells := 0, slots := 0, locals := 114 } : Room) (va_Pc [.ref (a 0), .int x1, .int x2] (pS D cI cC cO sz (wX5 a cI cC cO M))) (QI D cI cC cO (va_A (wX5 a cI cC cO M) sz) (wX5 a cI cC cO res.2) res.1) 0 0 (va_A (wX5 a cI cC cO M) sz) := by
  refine Met.ofW (cc := cX5_dearest) (maxL := 8) (ret := (Option.some Jvm.ClassFile.FieldType.int)) (by decide) rfl ?_
  intro p e s m args below meth c s₁ B hml hv
  obtain ⟨rfl, rfl, hP, hK, hD0, hN⟩ := hv
  have hx := B.exec
  have hb := B.bytes
  have hr := B.returns
  have ht : ∀ w ∈ lw_g, w.before ([.ref (a 0), .int x1, .int x2] : List Value).toArray s = true := fun w hw => atoms_spec (ws := Cond.code yX5_dearest cX5_dearest 8 (Option.some Jvm.ClassFile.FieldType.int) :: lw_g) B.pre w (List.mem_cons_of_mem _ hw)
  have hown : s.vm.findClass RX5 = some m.cls := findClass_of_methodNamed B.named
  have hlocks := B.notSynchronized
  have hD := hD0.self (sz := s.heap.size)
  generalize hAe : va_A (wX5 a cI cC cO M) s.heap.size = A at hD ⊢
  have hA : ∀ q : Nat, s.heap.size ≤ q → A q := fun q hq => by rw [← hAe]; exact Or.inr hq
  have hS : va_S A s.heap s.heap [] := va_S.rf
  have hl := lv_entry ([.ref (a 0), .int x1, .int x2]) (n := 8) (Nat.le_of_ble_eq_true rfl)
  rw [lg_entry_eq]
  generalize (lg_sl ([.ref (a 0), .int x1, .int x2]) ++ List.replicate (8 - (lg_sl ([.ref (a 0), .int x1, .int x2])).length) Slot.unset).toArray = ls at hl ⊢
  have hl : lv_has ls 8 [(0, .ref (a 0)), (1, .int x1), (2, .int x2)] := hl
  have w31 : ∀ (n31 : Nat) (M : Mm) (y1 y2 y3 y4 y5 : Int32) (H : Heap) (locs : List Loc) (ls : Array Slot), F_X5_dearest_31 n31 M y1 y2 y3 y4 y5 = some res → va_P D classes (wX5 a cI cC cO M) H → va_D A (wX5 a cI cC cO M) → va_S A s.heap H locs → lv_has ls 8 [(0, .ref (a 0)), (1, .int y1), (2, .int y2), (3, .int y3), (4, .int y4), (5, .int y5)] → W p l e ({ frames := 5, cells := 0, slots := 0, locals := 114 } : Room) s m ([.ref (a 0), .int x1, .int x2] : List Value).toArray below meth c H locs 0 0 (MQ below (QI D cI cC cO A (wX5 a cI cC cO res.2) res.1) ([.ref (a 0), .int x1, .int x2] : List Value).toArray s 0 0 A) (F0 m 31 ls []) := by
    intro n31
    induction n31 with
    | zero => intro M y1 y2 y3 y4 y5 H locs ls h hP hD hS hl; exact absurd (show (none : Option (Int32 × Mm)) = some res from h) (by simp)
    | succ n31 ih31 =>
      have w84 : ∀ (M : Mm) (y1 y2 y4 y5 y6 y7 s0 : Int32) (H : Heap) (locs : List Loc) (ls : Array Slot), F_X5_dearest_84 (F_X5_dearest_31 n31) M y1 y2 y4 y5 y6 y7 s0 = some res → va_P D classes (wX5 a cI cC cO M) H → va_D A (wX5 a cI cC cO M) → va_S A s.heap H locs → lv_has ls 8 [(0, .ref (a 0)), (1, .int y1), (2, .int y2), (4, .int y4), (5, .int y5), (6, .int y6), (7, .int y7)] → W p l e ({ frames := 5, cells := 0, slots := 0, locals := 114 } : Room) s m ([.ref (a 0), .int x1, .int x2] : List Value).toArray below meth c H locs 0 0 (MQ below (QI D cI cC cO A (wX5 a cI cC cO res.2) res.1) ([.ref (a 0), .int x1, .int x2] : List Value).toArray s 0 0 A) (F0 m 84 ls [.int s0]) := by
        intro M y1 y2 y4 y5 y6 y7 s0 H locs ls h hP hD hS hl
        unfold F_X5_dearest_84 at h
        refine lv_istore_n (lv' := [(3, .int s0), (0, .ref (a 0)), (1, .int y1), (2, .int y2), (4, .int y4), (5, .int y5), (6, .int y6), (7, .int y7)]) hx hb dX5_dearest_84 rfl hl (by decide) rfl (fun ls hl => ?_)
        refine lv_iload hx hb dX5_dearest_85 (lv_at hl 7 rfl) ?_
        refine lv_if_eq (tgt := 95) hx hb dX5_dearest_87 (by decide) (fun c1 => ?_) (fun c1 => ?_)
        · replace h := fp c1 h
          refine lv_iload hx hb dX5_dearest_95 (lv_at hl 4 rfl) ?_
          refine lv_istore (lv' := [(4, .int y4), (3, .int s0), (0, .ref (a 0)), (1, .int y1), (2, .int y2), (5, .int y5), (6, .int y6), (7, .int y7)]) hx hb dX5_dearest_97 hl (by decide) rfl (fun ls hl => ?_)
          refine lv_iinc (v := (y5 + 1)) (lv' := [(5, .int (y5 + 1)), (4, .int y4), (3, .int s0), (0, .ref (a 0)), (1, .int y1), (2, .int y2), (6, .int y6), (7, .int y7)]) hx hb dX5_dearest_99 hl (k := 5) rfl rfl (by decide) rfl (fun ls hl => ?_)
          refine lv_goto (tgt := 31) hx hb dX5_dearest_102 (by decide) ?_
          exact ih31 M y1 y2 s0 y4 (y5 + 1) _ _ ls h hP hD hS (lv_sub hl [3, 4, 5, 2, 1, 0] rfl)
        · replace h := fn c1 h
          refine lv_iload hx hb dX5_dearest_90 (lv_at hl 6 rfl) ?_
          refine lv_goto (tgt := 97) hx hb dX5_dearest_92 (by decide) ?_
          refine lv_istore (lv' := [(4, .int y6), (3, .int s0), (0, .ref (a 0)), (1, .int y1), (2, .int y2), (5, .int y5), (6, .int y6), (7, .int y7)]) hx hb dX5_dearest_97 hl (by decide) rfl (fun ls hl => ?_)
          refine lv_iinc (v := (y5 + 1)) (lv' := [(5, .int (y5 + 1)), (4, .int y6), (3, .int s0), (0, .ref (a 0)), (1, .int y1), (2, .int y2), (6, .int y6), (7, .int y7)]) hx hb dX5_dearest_99 hl (k := 5) rfl rfl (by decide) rfl (fun ls hl => ?_)
          refine lv_goto (tgt := 31) hx hb dX5_dearest_102 (by decide) ?_
          exact ih31 M y1 y2 s0 y6 (y5 + 1) _ _ ls h hP hD hS (lv_sub hl [3, 4, 5, 2, 1, 0] rfl)
      have w71 : ∀ (M : Mm) (y1 y2 y3 y4 y5 y6 s0 : Int32) (H : Heap) (locs : List Loc) (ls : Array Slot), F_X5_dearest_71 (F_X5_dearest_31 n31) M y1 y2 y3 y4 y5 y6 s0 = some res → va_P D classes (wX5 a cI cC cO M) H → va_D A (wX5 a cI cC cO M) → va_S A s.heap H locs → lv_has ls 8 [(0, .ref (a 0)), (1, .int y1), (2, .int y2), (3, .int y3), (4, .int y4), (5, .int y5), (6, .int y6)] → W p l e ({ frames := 5, cells := 0, slots := 0, locals := 114 } : Room) s m ([.ref (a 0), .int x1, .int x2] : List Value).toArray below meth c H locs 0 0 (MQ below (QI D cI cC cO A (wX5 a cI cC cO res.2) res.1) ([.ref (a 0), .int x1, .int x2] : List Value).toArray s 0 0 A) (F0 m 71 ls [.int s0]) := by
        intro M y1 y2 y3 y4 y5 y6 s0 H locs ls h hP hD hS hl
        unfold F_X5_dearest_71 at h
        refine lv_istore (lv' := [(7, .int s0), (0, .ref (a 0)), (1, .int y1), (2, .int y2), (3, .int y3), (4, .int y4), (5, .int y5), (6, .int y6)]) hx hb dX5_dearest_71 hl (by decide) rfl (fun ls hl => ?_)
        refine lv_iload hx hb dX5_dearest_73 (lv_at hl 0 rfl) ?_
        refine lv_if_eq (tgt := 83) hx hb dX5_dearest_75 (by decide) (fun c1 => ?_) (fun c1 => ?_)
        · replace h := fp c1 h
          refine lv_iload_n hx hb dX5_dearest_83 rfl (lv_at hl 4 rfl) ?_
          exact w84 M y1 y2 y4 y5 y6 s0 y3 _ _ ls h hP hD hS (lv_sub hl [1, 2, 3, 5, 6, 7, 0] rfl)
        · replace h := fn c1 h
          refine lv_iload hx hb dX5_dearest_78 (lv_at hl 6 rfl) ?_
          refine lv_goto (tgt := 84) hx hb dX5_dearest_80 (by decide) ?_
          exact w84 M y1 y2 y4 y5 y6 s0 y5 _ _ ls h hP hD hS (lv_sub hl [1, 2, 3, 5, 6, 7, 0] rfl)
      have w66 : ∀ (M : Mm) (y1 y2 y3 y4 y5 y6 : Int32) (H : Heap) (locs : List Loc) (ls : Array Slot), F_X5_dearest_66 (F_X5_dearest_31 n31) M y1 y2 y3 y4 y5 y6 = some res → va_P D classes (wX5 a cI cC cO M) H → va_D A (wX5 a cI cC cO M) → va_S A s.heap H locs → lv_has ls 8 [(0, .ref (a 0)), (1, .int y1), (2, .int y2), (3, .int y3), (4, .int y4), (5, .int y5), (6, .int y6)] → W p l e ({ frames := 5, cells := 0, slots := 0, locals := 114 } : Room) s m ([.ref (a 0), .int x1, .int x2] : List Value).toArray below meth c H locs 0 0 (MQ below (QI D cI cC cO A (wX5 a cI cC cO res.2) res.1) ([.ref (a 0), .int x1, .int x2] : List Value).toArray s 0 0 A) (F0 m 66 ls []) := by
        intro M y1 y2 y3 y4 y5 y6 H locs ls h hP hD hS hl
        unfold F_X5_dearest_66 at h
        refine lv_iconst (v := (1 : Int32)) hx hb dX5_dearest_66 (by decide) ?_
        refine lv_goto (tgt := 71) hx hb dX5_dearest_67 (by decide) ?_
        exact w71 M y1 y2 y3 y4 y5 y6 (1 : Int32) _ _ ls h hP hD hS (lv_sub hl [0, 1, 2, 3, 4, 5, 6] rfl)
      intro M y1 y2 y3 y4 y5 H locs ls h hP hD hS hl
      have h : F_X5_dearestB_31 (F_X5_dearest_31 n31) M y1 y2 y3 y4 y5 = some res := h
      unfold F_X5_dearestB_31 at h
      refine lv_iload hx hb dX5_dearest_31 (lv_at hl 5 rfl) ?_
      refine lv_aload_n hx hb dX5_dearest_33 rfl (lv_at hl 0 rfl) ?_
      refine va_get (D := D) (ci := 5) (v := .ref (a 1)) (C := RX5) (T := TX5) (N := 23) hx hb ht i_X5 hown hK hP 0 rfl rfl 0 (by decide) (ht _ wd_536) (fun _ h9 => h9) rfl dX5_dearest_34 ?_
      refine lv_iconst (v := (1 : Int32)) hx hb dX5_dearest_37 (by decide) ?_
      obtain ⟨i1, h⟩ := ck_ok h
      refine va_iald hx hb hK hP 1 0 rfl rfl i1 dX5_dearest_38 ?_
      refine lv_icmp_ge (tgt := 105) hx hb dX5_dearest_39 (by decide) (fun c2 => ?_) (fun c2 => ?_)
      · replace h := fp c2 h
        refine lv_aload_n hx hb dX5_dearest_105 rfl (lv_at hl 0 rfl) ?_
        obtain ⟨M3, e4, h⟩ := b1_ok h
        refine cl_Vv (ws' := (wX5 a cI cC cO M3)) ⟨hx, hb, hml, hown, ht⟩ (c_X5_asIs l D cI cC cO a M _ _ e4) (cwv 0 ht wd_535 wd_6 wd_532 wd_534 ws_19 (by decide +kernel) rfl rfl ⟨Nat.le_of_ble_eq_true rfl, Nat.le_of_ble_eq_true rfl⟩) 5 0 rfl rfl rfl hK hP hD hS hA hN [0, 1, 2, 3, 4, 5, 6, 7, 8, 9, 10, 11, 12] [] [0, 1, 2, 3, 4, 5, 6, 7, 8, 9, 10, 11, 12] (by decide) rfl rfl (by decide) (by decide) rfl (by decide) rfl hl.1 rfl (Nat.le_of_ble_eq_true rfl) dX5_dearest_106 ⟨Nat.le_of_ble_eq_true rfl, Nat.le_of_ble_eq_true rfl⟩ (fun H locs hP hD hS => ?_)
        refine lv_iload_n hx hb dX5_dearest_109 rfl (lv_at hl 2 rfl) ?_
        refine lv_if_eq (tgt := 117) hx hb dX5_dearest_110 (by decide) (fun c5 => ?_) (fun c5 => ?_)
        · replace h := fp c5 h
          refine lv_iload_n hx hb dX5_dearest_117 rfl (lv_at hl 3 rfl) ?_
          refine lv_goto (tgt := 123) hx hb dX5_dearest_118 (by decide) ?_
          cases h
          exact rt_i hx hb hr hlocks hS hP hK hD dX5_dearest_123
        · replace h := fn c5 h
          refine lv_iload_n hx hb dX5_dearest_113 rfl (lv_at hl 3 rfl) ?_
          refine lv_if_ge (tgt := 121) hx hb dX5_dearest_114 (by decide) (fun c6 => ?_) (fun c6 => ?_)
          · replace h := fp c6 h
            refine lv_iload hx hb dX5_dearest_121 (lv_at hl 4 rfl) ?_
            cases h
            exact rt_i hx hb hr hlocks hS hP hK hD dX5_dearest_123
          · replace h := fn c6 h
            refine lv_iload_n hx hb dX5_dearest_117 rfl (lv_at hl 3 rfl) ?_
            refine lv_goto (tgt := 123) hx hb dX5_dearest_118 (by decide) ?_
            cases h
            exact rt_i hx hb hr hlocks hS hP hK hD dX5_dearest_123
      · replace h := fn c2 h
        refine lv_aload_n hx hb dX5_dearest_42 rfl (lv_at hl 0 rfl) ?_
        refine lv_iload hx hb dX5_dearest_43 (lv_at hl 5 rfl) ?_
        refine va_put (D := D) (ci := 5) (v := .int y5) (ty := .int) (C := RX5) (T := TX5) (N := 23) hx hb ht i_X5 tyX5 tyX5_ok nmX5 hown hK hP hD hS 0 rfl rfl 19 (by decide) (ht _ wd_555) (fun _ h9 => h9) rfl (by decide +kernel) rfl rfl (Nat.le_of_ble_eq_true rfl) dX5_dearest_45 (fun H locs hP hD hS => ?_)
        obtain ⟨M7, e8, h⟩ := sv_ok h
        have hP : va_P D classes (wX5 a cI cC cO M7) H := by rw [← e8]; exact hP
        have hD : va_D A (wX5 a cI cC cO M7) := by rw [← e8]; exact hD
        refine lv_aload_n hx hb dX5_dearest_48 rfl (lv_at hl 0 rfl) ?_
        refine lv_iload_n hx hb dX5_dearest_49 rfl (lv_at hl 1 rfl) ?_
        obtain ⟨u9, M10, e11, h⟩ := b2_ok h
        refine cl_Vi (ws' := (wX5 a cI cC cO M10)) ⟨hx, hb, hml, hown, ht⟩ (c_X5_comes l D cI cC cO a M7 y1 _ _ e11) (cwv 1 ht wd_699 wd_6 wd_696 wd_698 ws_31 (by decide +kernel) rfl rfl ⟨Nat.le_of_ble_eq_true rfl, Nat.le_of_ble_eq_true rfl⟩) 5 0 rfl rfl rfl hK hP hD hS hA hN [0, 1, 2, 3, 4, 5, 6, 7, 8, 9, 10, 11, 12] [] [0, 1, 2, 3, 4, 5, 6, 7, 8, 9, 10, 11, 12] (by decide) rfl rfl (by decide) (by decide) rfl (by decide) rfl hl.1 rfl (Nat.le_of_ble_eq_true rfl) dX5_dearest_50 ⟨Nat.le_of_ble_eq_true rfl, Nat.le_of_ble_eq_true rfl⟩ (fun H locs hP hD hS => ?_)
        refine lv_istore (lv' := [(6, .int u9), (0, .ref (a 0)), (1, .int y1), (2, .int y2), (3, .int y3), (4, .int y4), (5, .int y5)]) hx hb dX5_dearest_53 hl (by decide) rfl (fun ls hl => ?_)
        refine lv_iload_n hx hb dX5_dearest_55 rfl (lv_at hl 4 rfl) ?_
        refine lv_if_lt (tgt := 66) hx hb dX5_dearest_56 (by decide) (fun c12 => ?_) (fun c12 => ?_)
        · replace h := fp c12 h
          exact w66 M10 y1 y2 y3 y4 y5 u9 _ _ ls h hP hD hS (lv_sub hl [1, 2, 3, 4, 5, 6, 0] rfl)
        · replace h := fn c12 h
          refine lv_iload hx hb dX5_dearest_59 (lv_at hl 0 rfl) ?_
          refine lv_iload hx hb dX5_dearest_61 (lv_at hl 5 rfl) ?_
          refine lv_icmp_ge (tgt := 70) hx hb dX5_dearest_63 (by decide) (fun c13 => ?_) (fun c13 => ?_)
          · replace h := fp c13 h
            refine lv_iconst (v := (0 : Int32)) hx hb dX5_dearest_70 (by decide) ?_
            exact w71 M10 y1 y2 y3 y4 y5 u9 (0 : Int32) _ _ ls h hP hD hS (lv_sub hl [1, 2, 3, 4, 5, 6, 0] rfl)
          · replace h := fn c13 h
            exact w66 M10 y1 y2 y3 y4 y5 u9 _ _ ls h hP hD hS (lv_sub hl [1, 2, 3, 4, 5, 6, 0] rfl)
  unfold F_X5_dearest at h
  refine lv_iload_n hx hb dX5_dearest_0 rfl (lv_at hl 1 rfl) ?_
  refine lv_iconst (v := (0 : Int32)) hx hb dX5_dearest_1 (by decide) ?_
  refine lv_bipush (v := (15 : Int32)) hx hb dX5_dearest_2 (by decide) ?_
  obtain ⟨u1, e2, h⟩ := b1_ok h
  refine cl_Si (ws' := (wX5 a cI cC cO M)) ⟨hx, hb, hml, hown, ht⟩ (c_X5_in l D cI cC cO x1 (0 : Int32) (15 : Int32) _ _ e2) (cwst 3 ht wd_612 wd_6 wd_610 wd_611 (by decide +kernel) rfl rfl ⟨Nat.le_of_ble_eq_true rfl, Nat.le_of_ble_eq_true rfl⟩) hK hP hD hS hA hN [] [0, 1, 2, 3, 4, 5, 6, 7, 8, 9, 10, 11, 12] [0, 1, 2, 3, 4, 5, 6, 7, 8, 9, 10, 11, 12] (by decide) rfl rfl (by decide) (by decide) rfl (by decide) rfl hl.1 rfl (Nat.le_of_ble_eq_true rfl) dX5_dearest_4 ⟨Nat.le_of_ble_eq_true rfl, Nat.le_of_ble_eq_true rfl⟩ (fun H locs hP hD hS => ?_)
  refine lv_if_eq (tgt := 19) hx hb dX5_dearest_7 (by decide) (fun c3 => ?_) (fun c3 => ?_)
  · replace h := fp c3 h
    refine lv_ldc hx hb hown (ht _ wd_613) dX5_dearest_19 ?_
    cases h
    exact rt_i hx hb hr hlocks hS hP hK hD dX5_dearest_21
  · replace h := fn c3 h
    refine lv_iload_n hx hb dX5_dearest_10 rfl (lv_at hl 2 rfl) ?_
    refine lv_iconst (v := (0 : Int32)) hx hb dX5_dearest_11 (by decide) ?_
    refine lv_iconst (v := (1 : Int32)) hx hb dX5_dearest_12 (by decide) ?_
    obtain ⟨u4, e5, h⟩ := b1_ok h
    refine cl_Si (ws' := (wX5 a cI cC cO M)) ⟨hx, hb, hml, hown, ht⟩ (c_X5_in l D cI cC cO x2 (0 : Int32) (1 : Int32) _ _ e5) (cwst 3 ht wd_612 wd_6 wd_610 wd_611 (by decide +kernel) rfl rfl ⟨Nat.le_of_ble_eq_true rfl, Nat.le_of_ble_eq_true rfl⟩) hK hP hD hS hA hN [] [0, 1, 2, 3, 4, 5, 6, 7, 8, 9, 10, 11, 12] [0, 1, 2, 3, 4, 5, 6, 7, 8, 9, 10, 11, 12] (by decide) rfl rfl (by decide) (by decide) rfl (by decide) rfl hl.1 rfl (Nat.le_of_ble_eq_true rfl) dX5_dearest_13 ⟨Nat.le_of_ble_eq_true rfl, Nat.le_of_ble_eq_true rfl⟩ (fun H locs hP hD hS => ?_)
    refine lv_if_ne (tgt := 22) hx hb dX5_dearest_16 (by decide) (fun c6 => ?_) (fun c6 => ?_)
    · replace h := fn c6 h
      refine lv_ldc hx hb hown (ht _ wd_691) dX5_dearest_22 ?_
      refine lv_istore_n (lv' := [(3, .int (-1000004 : Int32)), (0, .ref (a 0)), (1, .int x1), (2, .int x2)]) hx hb dX5_dearest_24 rfl hl (by decide) rfl (fun ls hl => ?_)
      refine lv_iconst (v := (0 : Int32)) hx hb dX5_dearest_25 (by decide) ?_
      refine lv_istore (lv' := [(4, .int (0 : Int32)), (3, .int (-1000004 : Int32)), (0, .ref (a 0)), (1, .int x1), (2, .int x2)]) hx hb dX5_dearest_26 hl (by decide) rfl (fun ls hl => ?_)
      refine lv_iconst (v := (0 : Int32)) hx hb dX5_dearest_28 (by decide) ?_
      refine lv_istore (lv' := [(5, .int (0 : Int32)), (4, .int (0 : Int32)), (3, .int (-1000004 : Int32)), (0, .ref (a 0)), (1, .int x1), (2, .int x2)]) hx hb dX5_dearest_29 hl (by decide) rfl (fun ls hl => ?_)
      exact w31 FU M x1 x2 (-1000004 : Int32) (0 : Int32) (0 : Int32) _ _ ls h hP hD hS (lv_sub hl [3, 4, 5, 2, 1, 0] rfl)
    · replace h := fp c6 h
      refine lv_ldc hx hb hown (ht _ wd_613) dX5_dearest_19 ?_
      cases h
      exact rt_i hx hb hr hlocks hS hP hK hD dX5_dearest_21
