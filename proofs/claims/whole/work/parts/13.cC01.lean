theorem dX3_begin_0 : decode cX3_begin 0 = .ok (.iconst 0, 1) := by decide +kernel
theorem dX3_begin_1 : decode cX3_begin 1 = .ok (.istore_n 1, 1) := by decide +kernel
theorem dX3_begin_2 : decode cX3_begin 2 = .ok (.iload_n 1, 1) := by decide +kernel
theorem dX3_begin_3 : decode cX3_begin 3 = .ok (.aload_n 0, 1) := by decide +kernel
theorem dX3_begin_4 : decode cX3_begin 4 = .ok (.getfield 14, 3) := by decide +kernel
theorem dX3_begin_7 : decode cX3_begin 7 = .ok (.getfield 67, 3) := by decide +kernel
theorem dX3_begin_10 : decode cX3_begin 10 = .ok (.if_icmp .ge 41, 3) := by decide +kernel
theorem dX3_begin_13 : decode cX3_begin 13 = .ok (.iconst 0, 1) := by decide +kernel
theorem dX3_begin_14 : decode cX3_begin 14 = .ok (.istore_n 2, 1) := by decide +kernel
theorem dX3_begin_15 : decode cX3_begin 15 = .ok (.iload_n 2, 1) := by decide +kernel
theorem dX3_begin_16 : decode cX3_begin 16 = .ok (.bipush 16, 2) := by decide +kernel
theorem dX3_begin_18 : decode cX3_begin 18 = .ok (.if_icmp .ge 27, 3) := by decide +kernel
theorem dX3_begin_21 : decode cX3_begin 21 = .ok (.aload_n 0, 1) := by decide +kernel
theorem dX3_begin_22 : decode cX3_begin 22 = .ok (.iload_n 1, 1) := by decide +kernel
theorem dX3_begin_23 : decode cX3_begin 23 = .ok (.iload_n 2, 1) := by decide +kernel
theorem dX3_begin_24 : decode cX3_begin 24 = .ok (.invokestatic 76, 3) := by decide +kernel
theorem dX3_begin_27 : decode cX3_begin 27 = .ok (.aload_n 0, 1) := by decide +kernel
theorem dX3_begin_28 : decode cX3_begin 28 = .ok (.getfield 14, 3) := by decide +kernel
theorem dX3_begin_31 : decode cX3_begin 31 = .ok (.iload_n 1, 1) := by decide +kernel
theorem dX3_begin_32 : decode cX3_begin 32 = .ok (.iload_n 2, 1) := by decide +kernel
theorem dX3_begin_33 : decode cX3_begin 33 = .ok (.invokevirtual 86, 3) := by decide +kernel
theorem dX3_begin_36 : decode cX3_begin 36 = .ok (.invokevirtual 99, 3) := by decide +kernel
theorem dX3_begin_39 : decode cX3_begin 39 = .ok (.iinc 2 1, 3) := by decide +kernel
theorem dX3_begin_42 : decode cX3_begin 42 = .ok (.goto (-27), 3) := by decide +kernel
theorem dX3_begin_45 : decode cX3_begin 45 = .ok (.iinc 1 1, 3) := by decide +kernel
theorem dX3_begin_48 : decode cX3_begin 48 = .ok (.goto (-46), 3) := by decide +kernel
theorem dX3_begin_51 : decode cX3_begin 51 = .ok (.iconst 0, 1) := by decide +kernel
theorem dX3_begin_52 : decode cX3_begin 52 = .ok (.istore_n 1, 1) := by decide +kernel
theorem dX3_begin_53 : decode cX3_begin 53 = .ok (.iload_n 1, 1) := by decide +kernel
theorem dX3_begin_54 : decode cX3_begin 54 = .ok (.aload_n 0, 1) := by decide +kernel
theorem dX3_begin_55 : decode cX3_begin 55 = .ok (.getfield 14, 3) := by decide +kernel
theorem dX3_begin_58 : decode cX3_begin 58 = .ok (.getfield 103, 3) := by decide +kernel
theorem dX3_begin_61 : decode cX3_begin 61 = .ok (.if_icmp .ge 62, 3) := by decide +kernel
theorem dX3_begin_64 : decode cX3_begin 64 = .ok (.aload_n 0, 1) := by decide +kernel
theorem dX3_begin_65 : decode cX3_begin 65 = .ok (.iload_n 1, 1) := by decide +kernel
theorem dX3_begin_66 : decode cX3_begin 66 = .ok (.invokestatic 106, 3) := by decide +kernel
theorem dX3_begin_69 : decode cX3_begin 69 = .ok (.aload_n 0, 1) := by decide +kernel
theorem dX3_begin_70 : decode cX3_begin 70 = .ok (.getfield 14, 3) := by decide +kernel
theorem dX3_begin_73 : decode cX3_begin 73 = .ok (.getfield 54, 3) := by decide +kernel
theorem dX3_begin_76 : decode cX3_begin 76 = .ok (.iload_n 1, 1) := by decide +kernel
theorem dX3_begin_77 : decode cX3_begin 77 = .ok (.iaload, 1) := by decide +kernel
theorem dX3_begin_78 : decode cX3_begin 78 = .ok (.invokevirtual 99, 3) := by decide +kernel
theorem dX3_begin_81 : decode cX3_begin 81 = .ok (.iconst 0, 1) := by decide +kernel
theorem dX3_begin_82 : decode cX3_begin 82 = .ok (.istore_n 2, 1) := by decide +kernel
theorem dX3_begin_83 : decode cX3_begin 83 = .ok (.iload_n 2, 1) := by decide +kernel
theorem dX3_begin_84 : decode cX3_begin 84 = .ok (.bipush 16, 2) := by decide +kernel
theorem dX3_begin_86 : decode cX3_begin 86 = .ok (.if_icmp .ge 31, 3) := by decide +kernel
theorem dX3_begin_89 : decode cX3_begin 89 = .ok (.aload_n 0, 1) := by decide +kernel
theorem dX3_begin_90 : decode cX3_begin 90 = .ok (.iload_n 1, 1) := by decide +kernel
theorem dX3_begin_91 : decode cX3_begin 91 = .ok (.bipush 16, 2) := by decide +kernel
theorem dX3_begin_93 : decode cX3_begin 93 = .ok (.imul, 1) := by decide +kernel
theorem dX3_begin_94 : decode cX3_begin 94 = .ok (.iload_n 2, 1) := by decide +kernel
theorem dX3_begin_95 : decode cX3_begin 95 = .ok (.iadd, 1) := by decide +kernel
theorem dX3_begin_96 : decode cX3_begin 96 = .ok (.invokestatic 109, 3) := by decide +kernel
theorem dX3_begin_99 : decode cX3_begin 99 = .ok (.aload_n 0, 1) := by decide +kernel
theorem dX3_begin_100 : decode cX3_begin 100 = .ok (.getfield 14, 3) := by decide +kernel
theorem dX3_begin_103 : decode cX3_begin 103 = .ok (.getfield 63, 3) := by decide +kernel
theorem dX3_begin_106 : decode cX3_begin 106 = .ok (.iload_n 1, 1) := by decide +kernel
theorem dX3_begin_107 : decode cX3_begin 107 = .ok (.iaload, 1) := by decide +kernel
theorem dX3_begin_108 : decode cX3_begin 108 = .ok (.invokevirtual 99, 3) := by decide +kernel
theorem dX3_begin_111 : decode cX3_begin 111 = .ok (.iinc 2 1, 3) := by decide +kernel
theorem dX3_begin_114 : decode cX3_begin 114 = .ok (.goto (-31), 3) := by decide +kernel
theorem dX3_begin_117 : decode cX3_begin 117 = .ok (.iinc 1 1, 3) := by decide +kernel
theorem dX3_begin_120 : decode cX3_begin 120 = .ok (.goto (-67), 3) := by decide +kernel
theorem dX3_begin_123 : decode cX3_begin 123 = .ok (.return_, 1) := by decide +kernel
set_option maxHeartbeats 4000000 in
set_option maxRecDepth 100000 in
theorem c_X3_begin (l : Launch) (D : va_G) (cI cC cO : ClassId) (f : Nat → Nat) (n : Nat → Nat) (S : Mm) (N : Mm) (res : Mm) (sz : Nat) (h : F_X3_begin S N = some res) : Met l yX3_begin (Cond.code yX3_begin cX3_begin 3 (Option.none : Option Jvm.ClassFile.FieldType) :: lw_g) ({ frames := 2, cells := 0, slots := 0, locals := 44 } : Room) (va_Pc [.ref (f 0)] (pS D cI cC cO sz (wX3 f n cI cC cO S N))) (QV D cI cC cO (va_A (wX3 f n cI cC cO S N) sz) (wX3 f n cI cC cO res N)) 0 0 (va_A (wX3 f n cI cC cO S N) sz) := by
  refine Met.ofW (cc := cX3_begin) (maxL := 3) (ret := (Option.none : Option Jvm.ClassFile.FieldType)) (by decide) rfl ?_
  intro p e s m args below meth c s₁ B hml hv
  obtain ⟨rfl, rfl, hP, hK, hD0, hN⟩ := hv
  have hx := B.exec
  have hb := B.bytes
  have hr := B.returns
  have ht : ∀ w ∈ lw_g, w.before ([.ref (f 0)] : List Value).toArray s = true := fun w hw => atoms_spec (ws := Cond.code yX3_begin cX3_begin 3 (Option.none : Option Jvm.ClassFile.FieldType) :: lw_g) B.pre w (List.mem_cons_of_mem _ hw)
  have hown : s.vm.findClass RX3 = some m.cls := findClass_of_methodNamed B.named
  have hlocks := B.notSynchronized
  have hD := hD0.self (sz := s.heap.size)
  generalize hAe : va_A (wX3 f n cI cC cO S N) s.heap.size = A at hD ⊢
  have hA : ∀ q : Nat, s.heap.size ≤ q → A q := fun q hq => by rw [← hAe]; exact Or.inr hq
  have hS : va_S A s.heap s.heap [] := va_S.rf
  have hl := lv_entry ([.ref (f 0)]) (n := 3) (Nat.le_of_ble_eq_true rfl)
  rw [lg_entry_eq]
  generalize (lg_sl ([.ref (f 0)]) ++ List.replicate (3 - (lg_sl ([.ref (f 0)])).length) Slot.unset).toArray = ls at hl ⊢
  have hl : lv_has ls 3 [(0, .ref (f 0))] := hl
  have w53 : ∀ (n53 : Nat) (S : Mm) (y1 : Int32) (H : Heap) (locs : List Loc) (ls : Array Slot), F_X3_begin_53 n53 S N y1 = some res → va_P D classes (wX3 f n cI cC cO S N) H → va_D A (wX3 f n cI cC cO S N) → va_S A s.heap H locs → lv_has ls 3 [(0, .ref (f 0)), (1, .int y1)] → W p l e ({ frames := 2, cells := 0, slots := 0, locals := 44 } : Room) s m ([.ref (f 0)] : List Value).toArray below meth c H locs 0 0 (MQ below (QV D cI cC cO A (wX3 f n cI cC cO res N)) ([.ref (f 0)] : List Value).toArray s 0 0 A) (F0 m 53 ls []) := by
    intro n53
    induction n53 with
    | zero => intro S y1 H locs ls h hP hD hS hl; exact absurd (show (none : Option (Mm)) = some res from h) (by simp)
    | succ n53 ih53 =>
      have w83 : ∀ (n83 : Nat) (S : Mm) (y1 y2 : Int32) (H : Heap) (locs : List Loc) (ls : Array Slot), F_X3_begin_83 (F_X3_begin_53 n53) n83 S N y1 y2 = some res → va_P D classes (wX3 f n cI cC cO S N) H → va_D A (wX3 f n cI cC cO S N) → va_S A s.heap H locs → lv_has ls 3 [(0, .ref (f 0)), (1, .int y1), (2, .int y2)] → W p l e ({ frames := 2, cells := 0, slots := 0, locals := 44 } : Room) s m ([.ref (f 0)] : List Value).toArray below meth c H locs 0 0 (MQ below (QV D cI cC cO A (wX3 f n cI cC cO res N)) ([.ref (f 0)] : List Value).toArray s 0 0 A) (F0 m 83 ls []) := by
        intro n83
        induction n83 with
        | zero => intro S y1 y2 H locs ls h hP hD hS hl; exact absurd (show (none : Option (Mm)) = some res from h) (by simp)
        | succ n83 ih83 =>
          intro S y1 y2 H locs ls h hP hD hS hl
          have h : F_X3_beginB_83 (F_X3_begin_53 n53) (F_X3_begin_83 (F_X3_begin_53 n53) n83) S N y1 y2 = some res := h
          unfold F_X3_beginB_83 at h
          refine lv_iload_n hx hb dX3_begin_83 rfl (lv_at hl 2 rfl) ?_
          refine lv_bipush (v := (16 : Int32)) hx hb dX3_begin_84 (by decide) ?_
          refine lv_icmp_ge (tgt := 117) hx hb dX3_begin_86 (by decide) (fun c1 => ?_) (fun c1 => ?_)
          · replace h := fp c1 h
            refine lv_iinc (v := (y1 + 1)) (lv' := [(1, .int (y1 + 1)), (0, .ref (f 0)), (2, .int y2)]) hx hb dX3_begin_117 hl (k := 1) rfl rfl (by decide) rfl (fun ls hl => ?_)
            refine lv_goto (tgt := 53) hx hb dX3_begin_120 (by decide) ?_
            exact ih53 S (y1 + 1) _ _ ls h hP hD hS (lv_sub hl [1, 0] rfl)
          · replace h := fn c1 h
            refine lv_aload_n hx hb dX3_begin_89 rfl (lv_at hl 0 rfl) ?_
            refine lv_iload_n hx hb dX3_begin_90 rfl (lv_at hl 1 rfl) ?_
            refine lv_bipush (v := (16 : Int32)) hx hb dX3_begin_91 (by decide) ?_
            refine lv_imul hx hb dX3_begin_93 ?_
            refine lv_iload_n hx hb dX3_begin_94 rfl (lv_at hl 2 rfl) ?_
            refine lv_iadd hx hb dX3_begin_95 ?_
            obtain ⟨u2, e3, h⟩ := b1_ok h
            refine cl_Si (ws' := (wX3 f n cI cC cO S N)) ⟨hx, hb, hml, hown, ht⟩ (c_X3_waiting l D cI cC cO ((y1 * (16 : Int32)) + y2) _ _ e3) (cwst 1 ht wd_314 wd_4 wd_312 wd_313 (by decide +kernel) rfl rfl ⟨Nat.le_of_ble_eq_true rfl, Nat.le_of_ble_eq_true rfl⟩) hK hP hD hS hA hN [] [0, 1, 2, 3, 4, 5, 6, 7, 8] [0, 1, 2, 3, 4, 5, 6, 7, 8] (by decide) rfl rfl (by decide) (by decide) rfl (by decide) rfl hl.1 rfl (Nat.le_of_ble_eq_true rfl) dX3_begin_96 ⟨Nat.le_of_ble_eq_true rfl, Nat.le_of_ble_eq_true rfl⟩ (fun H locs hP hD hS => ?_)
            refine lv_aload_n hx hb dX3_begin_99 rfl (lv_at hl 0 rfl) ?_
            refine va_get (D := D) (ci := 3) (v := .ref (n 0)) (C := RX3) (T := TX3) (N := 7) hx hb ht i_X3 hown hK hP 0 rfl rfl 0 (by decide) (ht _ wd_75) (fun _ h9 => h9) rfl dX3_begin_100 ?_
            refine va_getN (D := D) (ci := 1) (v := .ref (n 2)) (C := RX1) (T := TX1) (N := 5) hx hb ht i_X1 hown hK hP 5 rfl rfl 1 (by decide) (va_Nw.use rfl (hN.1 _ _ _ _ _ _ wd_29)) (fun _ h9 => h9) rfl dX3_begin_103 ?_
            refine lv_iload_n hx hb dX3_begin_106 rfl (lv_at hl 1 rfl) ?_
            obtain ⟨i4, h⟩ := ck_ok h
            refine va_iald hx hb hK hP 7 0 rfl rfl i4 dX3_begin_107 ?_
            obtain ⟨S5, e6, h⟩ := b1_ok h
            refine cl_Vv (ws' := (wX3 f n cI cC cO S5 N)) ⟨hx, hb, hml, hown, ht⟩ (c_X3_bind l D cI cC cO f n S N u2 (N 1 y1.toNatClampNeg) _ _ e6) (cwv 2 ht wd_305 wd_4 wd_302 wd_304 ws_3 (by decide +kernel) rfl rfl ⟨Nat.le_of_ble_eq_true rfl, Nat.le_of_ble_eq_true rfl⟩) 3 0 rfl rfl rfl hK hP hD hS hA hN [0, 1, 2, 3, 4, 5, 6, 7, 8] [] [0, 1, 2, 3, 4, 5, 6, 7, 8] (by decide) rfl rfl (by decide) (by decide) rfl (by decide) rfl hl.1 rfl (Nat.le_of_ble_eq_true rfl) dX3_begin_108 ⟨Nat.le_of_ble_eq_true rfl, Nat.le_of_ble_eq_true rfl⟩ (fun H locs hP hD hS => ?_)
            refine lv_iinc (v := (y2 + 1)) (lv' := [(2, .int (y2 + 1)), (0, .ref (f 0)), (1, .int y1)]) hx hb dX3_begin_111 hl (k := 2) rfl rfl (by decide) rfl (fun ls hl => ?_)
            refine lv_goto (tgt := 83) hx hb dX3_begin_114 (by decide) ?_
            exact ih83 S5 y1 (y2 + 1) _ _ ls h hP hD hS (lv_sub hl [1, 2, 0] rfl)
      intro S y1 H locs ls h hP hD hS hl
      have h : F_X3_beginB_53 (F_X3_begin_53 n53) S N y1 = some res := h
      unfold F_X3_beginB_53 at h
      refine lv_iload_n hx hb dX3_begin_53 rfl (lv_at hl 1 rfl) ?_
      refine lv_aload_n hx hb dX3_begin_54 rfl (lv_at hl 0 rfl) ?_
      refine va_get (D := D) (ci := 3) (v := .ref (n 0)) (C := RX3) (T := TX3) (N := 7) hx hb ht i_X3 hown hK hP 0 rfl rfl 0 (by decide) (ht _ wd_75) (fun _ h9 => h9) rfl dX3_begin_55 ?_
      refine va_getN (D := D) (ci := 1) (v := .int (N 3 0)) (C := RX1) (T := TX1) (N := 5) hx hb ht i_X1 hown hK hP 5 rfl rfl 3 (by decide) (va_Nw.use rfl (hN.1 _ _ _ _ _ _ wd_34)) (fun _ h9 => h9) rfl dX3_begin_58 ?_
      refine lv_icmp_ge (tgt := 123) hx hb dX3_begin_61 (by decide) (fun c1 => ?_) (fun c1 => ?_)
      · replace h := fp c1 h
        cases h
        exact rt_v hx hb hr hlocks hS hP hK hD dX3_begin_123
      · replace h := fn c1 h
        refine lv_aload_n hx hb dX3_begin_64 rfl (lv_at hl 0 rfl) ?_
        refine lv_iload_n hx hb dX3_begin_65 rfl (lv_at hl 1 rfl) ?_
        obtain ⟨u2, e3, h⟩ := b1_ok h
        refine cl_Si (ws' := (wX3 f n cI cC cO S N)) ⟨hx, hb, hml, hown, ht⟩ (c_X3_settingOut l D cI cC cO y1 _ _ e3) (cwst 1 ht wd_311 wd_4 wd_309 wd_310 (by decide +kernel) rfl rfl ⟨Nat.le_of_ble_eq_true rfl, Nat.le_of_ble_eq_true rfl⟩) hK hP hD hS hA hN [] [0, 1, 2, 3, 4, 5, 6, 7, 8] [0, 1, 2, 3, 4, 5, 6, 7, 8] (by decide) rfl rfl (by decide) (by decide) rfl (by decide) rfl hl.1 rfl (Nat.le_of_ble_eq_true rfl) dX3_begin_66 ⟨Nat.le_of_ble_eq_true rfl, Nat.le_of_ble_eq_true rfl⟩ (fun H locs hP hD hS => ?_)
        refine lv_aload_n hx hb dX3_begin_69 rfl (lv_at hl 0 rfl) ?_
        refine va_get (D := D) (ci := 3) (v := .ref (n 0)) (C := RX3) (T := TX3) (N := 7) hx hb ht i_X3 hown hK hP 0 rfl rfl 0 (by decide) (ht _ wd_75) (fun _ h9 => h9) rfl dX3_begin_70 ?_
        refine va_getN (D := D) (ci := 1) (v := .ref (n 1)) (C := RX1) (T := TX1) (N := 5) hx hb ht i_X1 hown hK hP 5 rfl rfl 0 (by decide) (va_Nw.use rfl (hN.1 _ _ _ _ _ _ wd_25)) (fun _ h9 => h9) rfl dX3_begin_73 ?_
        refine lv_iload_n hx hb dX3_begin_76 rfl (lv_at hl 1 rfl) ?_
        obtain ⟨i4, h⟩ := ck_ok h
        refine va_iald hx hb hK hP 6 0 rfl rfl i4 dX3_begin_77 ?_
        obtain ⟨S5, e6, h⟩ := b1_ok h
        refine cl_Vv (ws' := (wX3 f n cI cC cO S5 N)) ⟨hx, hb, hml, hown, ht⟩ (c_X3_bind l D cI cC cO f n S N u2 (N 0 y1.toNatClampNeg) _ _ e6) (cwv 2 ht wd_305 wd_4 wd_302 wd_304 ws_3 (by decide +kernel) rfl rfl ⟨Nat.le_of_ble_eq_true rfl, Nat.le_of_ble_eq_true rfl⟩) 3 0 rfl rfl rfl hK hP hD hS hA hN [0, 1, 2, 3, 4, 5, 6, 7, 8] [] [0, 1, 2, 3, 4, 5, 6, 7, 8] (by decide) rfl rfl (by decide) (by decide) rfl (by decide) rfl hl.1 rfl (Nat.le_of_ble_eq_true rfl) dX3_begin_78 ⟨Nat.le_of_ble_eq_true rfl, Nat.le_of_ble_eq_true rfl⟩ (fun H locs hP hD hS => ?_)
        refine lv_iconst (v := (0 : Int32)) hx hb dX3_begin_81 (by decide) ?_
        refine lv_istore_n (lv' := [(2, .int (0 : Int32)), (0, .ref (f 0)), (1, .int y1)]) hx hb dX3_begin_82 rfl hl (by decide) rfl (fun ls hl => ?_)
        exact w83 FU S5 y1 (0 : Int32) _ _ ls h hP hD hS (lv_sub hl [1, 2, 0] rfl)
  have w2 : ∀ (n2 : Nat) (S : Mm) (y1 : Int32) (H : Heap) (locs : List Loc) (ls : Array Slot), F_X3_begin_2 n2 S N y1 = some res → va_P D classes (wX3 f n cI cC cO S N) H → va_D A (wX3 f n cI cC cO S N) → va_S A s.heap H locs → lv_has ls 3 [(0, .ref (f 0)), (1, .int y1)] → W p l e ({ frames := 2, cells := 0, slots := 0, locals := 44 } : Room) s m ([.ref (f 0)] : List Value).toArray below meth c H locs 0 0 (MQ below (QV D cI cC cO A (wX3 f n cI cC cO res N)) ([.ref (f 0)] : List Value).toArray s 0 0 A) (F0 m 2 ls []) := by
    intro n2
    induction n2 with
    | zero => intro S y1 H locs ls h hP hD hS hl; exact absurd (show (none : Option (Mm)) = some res from h) (by simp)
    | succ n2 ih2 =>
      have w15 : ∀ (n15 : Nat) (S : Mm) (y1 y2 : Int32) (H : Heap) (locs : List Loc) (ls : Array Slot), F_X3_begin_15 (F_X3_begin_2 n2) n15 S N y1 y2 = some res → va_P D classes (wX3 f n cI cC cO S N) H → va_D A (wX3 f n cI cC cO S N) → va_S A s.heap H locs → lv_has ls 3 [(0, .ref (f 0)), (1, .int y1), (2, .int y2)] → W p l e ({ frames := 2, cells := 0, slots := 0, locals := 44 } : Room) s m ([.ref (f 0)] : List Value).toArray below meth c H locs 0 0 (MQ below (QV D cI cC cO A (wX3 f n cI cC cO res N)) ([.ref (f 0)] : List Value).toArray s 0 0 A) (F0 m 15 ls []) := by
        intro n15
        induction n15 with
        | zero => intro S y1 y2 H locs ls h hP hD hS hl; exact absurd (show (none : Option (Mm)) = some res from h) (by simp)
        | succ n15 ih15 =>
          intro S y1 y2 H locs ls h hP hD hS hl
          have h : F_X3_beginB_15 (F_X3_begin_2 n2) (F_X3_begin_15 (F_X3_begin_2 n2) n15) S N y1 y2 = some res := h
          unfold F_X3_beginB_15 at h
          refine lv_iload_n hx hb dX3_begin_15 rfl (lv_at hl 2 rfl) ?_
          refine lv_bipush (v := (16 : Int32)) hx hb dX3_begin_16 (by decide) ?_
          refine lv_icmp_ge (tgt := 45) hx hb dX3_begin_18 (by decide) (fun c1 => ?_) (fun c1 => ?_)
          · replace h := fp c1 h
            refine lv_iinc (v := (y1 + 1)) (lv' := [(1, .int (y1 + 1)), (0, .ref (f 0)), (2, .int y2)]) hx hb dX3_begin_45 hl (k := 1) rfl rfl (by decide) rfl (fun ls hl => ?_)
            refine lv_goto (tgt := 2) hx hb dX3_begin_48 (by decide) ?_
            exact ih2 S (y1 + 1) _ _ ls h hP hD hS (lv_sub hl [1, 0] rfl)
          · replace h := fn c1 h
            refine lv_aload_n hx hb dX3_begin_21 rfl (lv_at hl 0 rfl) ?_
            refine lv_iload_n hx hb dX3_begin_22 rfl (lv_at hl 1 rfl) ?_
            refine lv_iload_n hx hb dX3_begin_23 rfl (lv_at hl 2 rfl) ?_
            obtain ⟨u2, e3, h⟩ := b1_ok h
            refine cl_Si (ws' := (wX3 f n cI cC cO S N)) ⟨hx, hb, hml, hown, ht⟩ (c_X3_through l D cI cC cO y1 y2 _ _ e3) (cwst 2 ht wd_297 wd_4 wd_295 wd_296 (by decide +kernel) rfl rfl ⟨Nat.le_of_ble_eq_true rfl, Nat.le_of_ble_eq_true rfl⟩) hK hP hD hS hA hN [] [0, 1, 2, 3, 4, 5, 6, 7, 8] [0, 1, 2, 3, 4, 5, 6, 7, 8] (by decide) rfl rfl (by decide) (by decide) rfl (by decide) rfl hl.1 rfl (Nat.le_of_ble_eq_true rfl) dX3_begin_24 ⟨Nat.le_of_ble_eq_true rfl, Nat.le_of_ble_eq_true rfl⟩ (fun H locs hP hD hS => ?_)
            refine lv_aload_n hx hb dX3_begin_27 rfl (lv_at hl 0 rfl) ?_
            refine va_get (D := D) (ci := 3) (v := .ref (n 0)) (C := RX3) (T := TX3) (N := 7) hx hb ht i_X3 hown hK hP 0 rfl rfl 0 (by decide) (ht _ wd_75) (fun _ h9 => h9) rfl dX3_begin_28 ?_
            refine lv_iload_n hx hb dX3_begin_31 rfl (lv_at hl 1 rfl) ?_
            refine lv_iload_n hx hb dX3_begin_32 rfl (lv_at hl 2 rfl) ?_
            obtain ⟨u4, e5, h⟩ := b1_ok h
            refine cl_Vi (ws' := (wX3 f n cI cC cO S N)) ⟨hx, hb, hml, hown, ht⟩ (c_X1_boundIn l D cI cC cO n N y1 y2 _ _ e5) (cwv 2 ht wd_301 wd_2 wd_298 wd_299 wd_300 (by decide +kernel) rfl rfl ⟨Nat.le_of_ble_eq_true rfl, Nat.le_of_ble_eq_true rfl⟩) 1 0 rfl rfl rfl hK hP hD hS hA hN [5, 6, 7, 8] [0, 1, 2, 3, 4] [0, 1, 2, 3, 4, 5, 6, 7, 8] (by decide) rfl rfl (by decide) (by decide) rfl (by decide) rfl hl.1 rfl (Nat.le_of_ble_eq_true rfl) dX3_begin_33 ⟨Nat.le_of_ble_eq_true rfl, Nat.le_of_ble_eq_true rfl⟩ (fun H locs hP hD hS => ?_)
            obtain ⟨S6, e7, h⟩ := b1_ok h
            refine cl_Vv (ws' := (wX3 f n cI cC cO S6 N)) ⟨hx, hb, hml, hown, ht⟩ (c_X3_bind l D cI cC cO f n S N u2 u4 _ _ e7) (cwv 2 ht wd_305 wd_4 wd_302 wd_304 ws_3 (by decide +kernel) rfl rfl ⟨Nat.le_of_ble_eq_true rfl, Nat.le_of_ble_eq_true rfl⟩) 3 0 rfl rfl rfl hK hP hD hS hA hN [0, 1, 2, 3, 4, 5, 6, 7, 8] [] [0, 1, 2, 3, 4, 5, 6, 7, 8] (by decide) rfl rfl (by decide) (by decide) rfl (by decide) rfl hl.1 rfl (Nat.le_of_ble_eq_true rfl) dX3_begin_36 ⟨Nat.le_of_ble_eq_true rfl, Nat.le_of_ble_eq_true rfl⟩ (fun H locs hP hD hS => ?_)
            refine lv_iinc (v := (y2 + 1)) (lv' := [(2, .int (y2 + 1)), (0, .ref (f 0)), (1, .int y1)]) hx hb dX3_begin_39 hl (k := 2) rfl rfl (by decide) rfl (fun ls hl => ?_)
            refine lv_goto (tgt := 15) hx hb dX3_begin_42 (by decide) ?_
            exact ih15 S6 y1 (y2 + 1) _ _ ls h hP hD hS (lv_sub hl [1, 2, 0] rfl)
      intro S y1 H locs ls h hP hD hS hl
      have h : F_X3_beginB_2 (F_X3_begin_2 n2) S N y1 = some res := h
      unfold F_X3_beginB_2 at h
      refine lv_iload_n hx hb dX3_begin_2 rfl (lv_at hl 1 rfl) ?_
      refine lv_aload_n hx hb dX3_begin_3 rfl (lv_at hl 0 rfl) ?_
      refine va_get (D := D) (ci := 3) (v := .ref (n 0)) (C := RX3) (T := TX3) (N := 7) hx hb ht i_X3 hown hK hP 0 rfl rfl 0 (by decide) (ht _ wd_75) (fun _ h9 => h9) rfl dX3_begin_4 ?_
      refine va_getN (D := D) (ci := 1) (v := .int (N 3 1)) (C := RX1) (T := TX1) (N := 5) hx hb ht i_X1 hown hK hP 5 rfl rfl 4 (by decide) (va_Nw.use rfl (hN.1 _ _ _ _ _ _ wd_37)) (fun _ h9 => h9) rfl dX3_begin_7 ?_
      refine lv_icmp_ge (tgt := 51) hx hb dX3_begin_10 (by decide) (fun c1 => ?_) (fun c1 => ?_)
      · replace h := fp c1 h
        refine lv_iconst (v := (0 : Int32)) hx hb dX3_begin_51 (by decide) ?_
        refine lv_istore_n (lv' := [(1, .int (0 : Int32)), (0, .ref (f 0))]) hx hb dX3_begin_52 rfl hl (by decide) rfl (fun ls hl => ?_)
        exact w53 FU S (0 : Int32) _ _ ls h hP hD hS (lv_sub hl [1, 0] rfl)
      · replace h := fn c1 h
        refine lv_iconst (v := (0 : Int32)) hx hb dX3_begin_13 (by decide) ?_
        refine lv_istore_n (lv' := [(2, .int (0 : Int32)), (0, .ref (f 0)), (1, .int y1)]) hx hb dX3_begin_14 rfl hl (by decide) rfl (fun ls hl => ?_)
        exact w15 FU S y1 (0 : Int32) _ _ ls h hP hD hS (lv_sub hl [1, 2, 0] rfl)
  unfold F_X3_begin at h
  refine lv_iconst (v := (0 : Int32)) hx hb dX3_begin_0 (by decide) ?_
  refine lv_istore_n (lv' := [(1, .int (0 : Int32)), (0, .ref (f 0))]) hx hb dX3_begin_1 rfl hl (by decide) rfl (fun ls hl => ?_)
  exact w2 FU S (0 : Int32) _ _ ls h hP hD hS (lv_sub hl [1, 0] rfl)
theorem dX3_tryWay_0 : decode cX3_tryWay 0 = .ok (.aload_n 0, 1) := by decide +kernel
theorem dX3_tryWay_1 : decode cX3_tryWay 1 = .ok (.getfield 22, 3) := by decide +kernel
theorem dX3_tryWay_4 : decode cX3_tryWay 4 = .ok (.iload_n 3, 1) := by decide +kernel
theorem dX3_tryWay_5 : decode cX3_tryWay 5 = .ok (.iaload, 1) := by decide +kernel
theorem dX3_tryWay_6 : decode cX3_tryWay 6 = .ok (.iconst (-1), 1) := by decide +kernel
theorem dX3_tryWay_7 : decode cX3_tryWay 7 = .ok (.if_icmp .ne 12, 3) := by decide +kernel
theorem dX3_tryWay_10 : decode cX3_tryWay 10 = .ok (.aload_n 0, 1) := by decide +kernel
theorem dX3_tryWay_11 : decode cX3_tryWay 11 = .ok (.getfield 18, 3) := by decide +kernel
theorem dX3_tryWay_14 : decode cX3_tryWay 14 = .ok (.iload_n 2, 1) := by decide +kernel
theorem dX3_tryWay_15 : decode cX3_tryWay 15 = .ok (.iaload, 1) := by decide +kernel
theorem dX3_tryWay_16 : decode cX3_tryWay 16 = .ok (.ifCond .ne 4, 3) := by decide +kernel
theorem dX3_tryWay_19 : decode cX3_tryWay 19 = .ok (.return_, 1) := by decide +kernel
theorem dX3_tryWay_20 : decode cX3_tryWay 20 = .ok (.aload_n 0, 1) := by decide +kernel
theorem dX3_tryWay_21 : decode cX3_tryWay 21 = .ok (.getfield 22, 3) := by decide +kernel
theorem dX3_tryWay_24 : decode cX3_tryWay 24 = .ok (.iload_n 3, 1) := by decide +kernel
theorem dX3_tryWay_25 : decode cX3_tryWay 25 = .ok (.iload_n 2, 1) := by decide +kernel
theorem dX3_tryWay_26 : decode cX3_tryWay 26 = .ok (.iastore, 1) := by decide +kernel
theorem dX3_tryWay_27 : decode cX3_tryWay 27 = .ok (.aload_n 0, 1) := by decide +kernel
theorem dX3_tryWay_28 : decode cX3_tryWay 28 = .ok (.getfield 25, 3) := by decide +kernel
theorem dX3_tryWay_31 : decode cX3_tryWay 31 = .ok (.iload_n 3, 1) := by decide +kernel
theorem dX3_tryWay_32 : decode cX3_tryWay 32 = .ok (.iload_n 1, 1) := by decide +kernel
theorem dX3_tryWay_33 : decode cX3_tryWay 33 = .ok (.iastore, 1) := by decide +kernel
theorem dX3_tryWay_34 : decode cX3_tryWay 34 = .ok (.aload_n 0, 1) := by decide +kernel
theorem dX3_tryWay_35 : decode cX3_tryWay 35 = .ok (.getfield 28, 3) := by decide +kernel
theorem dX3_tryWay_38 : decode cX3_tryWay 38 = .ok (.aload_n 0, 1) := by decide +kernel
theorem dX3_tryWay_39 : decode cX3_tryWay 39 = .ok (.getfield 31, 3) := by decide +kernel
theorem dX3_tryWay_42 : decode cX3_tryWay 42 = .ok (.iload_n 3, 1) := by decide +kernel
theorem dX3_tryWay_43 : decode cX3_tryWay 43 = .ok (.iastore, 1) := by decide +kernel
theorem dX3_tryWay_44 : decode cX3_tryWay 44 = .ok (.aload_n 0, 1) := by decide +kernel
theorem dX3_tryWay_45 : decode cX3_tryWay 45 = .ok (.dup, 1) := by decide +kernel
theorem dX3_tryWay_46 : decode cX3_tryWay 46 = .ok (.getfield 31, 3) := by decide +kernel
theorem dX3_tryWay_49 : decode cX3_tryWay 49 = .ok (.iconst 1, 1) := by decide +kernel
theorem dX3_tryWay_50 : decode cX3_tryWay 50 = .ok (.iadd, 1) := by decide +kernel
theorem dX3_tryWay_51 : decode cX3_tryWay 51 = .ok (.putfield 31, 3) := by decide +kernel
theorem dX3_tryWay_54 : decode cX3_tryWay 54 = .ok (.iload_n 3, 1) := by decide +kernel
theorem dX3_tryWay_55 : decode cX3_tryWay 55 = .ok (.bipush 16, 2) := by decide +kernel
theorem dX3_tryWay_57 : decode cX3_tryWay 57 = .ok (.if_icmp .ge 8, 3) := by decide +kernel
theorem dX3_tryWay_60 : decode cX3_tryWay 60 = .ok (.aload_n 0, 1) := by decide +kernel
theorem dX3_tryWay_61 : decode cX3_tryWay 61 = .ok (.iload_n 3, 1) := by decide +kernel
theorem dX3_tryWay_62 : decode cX3_tryWay 62 = .ok (.putfield 35, 3) := by decide +kernel
theorem dX3_tryWay_65 : decode cX3_tryWay 65 = .ok (.return_, 1) := by decide +kernel
set_option maxHeartbeats 4000000 in
set_option maxRecDepth 100000 in
theorem c_X3_tryWay (l : Launch) (D : va_G) (cI cC cO : ClassId) (f : Nat → Nat) (n : Nat → Nat) (S : Mm) (N : Mm) (x1 x2 x3 : Int32) (res : Mm) (sz : Nat) (h : F_X3_tryWay S N x1 x2 x3 = some res) : Met l yX3_tryWay (Cond.code yX3_tryWay cX3_tryWay 4 (Option.none : Option Jvm.ClassFile.FieldType) :: lw_g) ({ frames := 0, cells := 0, slots := 0, locals := 0 } : Room) (va_Pc [.ref (f 0), .int x1, .int x2, .int x3] (pS D cI cC cO sz (wX3 f n cI cC cO S N))) (QV D cI cC cO (va_A (wX3 f n cI cC cO S N) sz) (wX3 f n cI cC cO res N)) 0 0 (va_A (wX3 f n cI cC cO S N) sz) := by
  refine Met.ofW (cc := cX3_tryWay) (maxL := 4) (ret := (Option.none : Option Jvm.ClassFile.FieldType)) (by decide) rfl ?_
  intro p e s m args below meth c s₁ B hml hv
  obtain ⟨rfl, rfl, hP, hK, hD0, hN⟩ := hv
  have hx := B.exec
  have hb := B.bytes
  have hr := B.returns
  have ht : ∀ w ∈ lw_g, w.before ([.ref (f 0), .int x1, .int x2, .int x3] : List Value).toArray s = true := fun w hw => atoms_spec (ws := Cond.code yX3_tryWay cX3_tryWay 4 (Option.none : Option Jvm.ClassFile.FieldType) :: lw_g) B.pre w (List.mem_cons_of_mem _ hw)
  have hown : s.vm.findClass RX3 = some m.cls := findClass_of_methodNamed B.named
  have hlocks := B.notSynchronized
  have hD := hD0.self (sz := s.heap.size)
  generalize hAe : va_A (wX3 f n cI cC cO S N) s.heap.size = A at hD ⊢
  have hA : ∀ q : Nat, s.heap.size ≤ q → A q := fun q hq => by rw [← hAe]; exact Or.inr hq
  have hS : va_S A s.heap s.heap [] := va_S.rf
  have hl := lv_entry ([.ref (f 0), .int x1, .int x2, .int x3]) (n := 4) (Nat.le_of_ble_eq_true rfl)
  rw [lg_entry_eq]
  generalize (lg_sl ([.ref (f 0), .int x1, .int x2, .int x3]) ++ List.replicate (4 - (lg_sl ([.ref (f 0), .int x1, .int x2, .int x3])).length) Slot.unset).toArray = ls at hl ⊢
  have hl : lv_has ls 4 [(0, .ref (f 0)), (1, .int x1), (2, .int x2), (3, .int x3)] := hl
  unfold F_X3_tryWay at h
  refine lv_aload_n hx hb dX3_tryWay_0 rfl (lv_at hl 0 rfl) ?_
  refine va_get (D := D) (ci := 3) (v := .ref (f 2)) (C := RX3) (T := TX3) (N := 7) hx hb ht i_X3 hown hK hP 0 rfl rfl 2 (by decide) (ht _ wd_77) (fun _ h9 => h9) rfl dX3_tryWay_1 ?_
  refine lv_iload_n hx hb dX3_tryWay_4 rfl (lv_at hl 3 rfl) ?_
  obtain ⟨i1, h⟩ := ck_ok h
  refine va_iald hx hb hK hP 2 0 rfl rfl i1 dX3_tryWay_5 ?_
  refine lv_iconst (v := (-1 : Int32)) hx hb dX3_tryWay_6 (by decide) ?_
  refine lv_icmp_ne (tgt := 19) hx hb dX3_tryWay_7 (by decide) (fun c2 => ?_) (fun c2 => ?_)
  · replace h := fn c2 h
    cases h
    exact rt_v hx hb hr hlocks hS hP hK hD dX3_tryWay_19
  · replace h := fp c2 h
    refine lv_aload_n hx hb dX3_tryWay_10 rfl (lv_at hl 0 rfl) ?_
    refine va_get (D := D) (ci := 3) (v := .ref (f 1)) (C := RX3) (T := TX3) (N := 7) hx hb ht i_X3 hown hK hP 0 rfl rfl 1 (by decide) (ht _ wd_76) (fun _ h9 => h9) rfl dX3_tryWay_11 ?_
    refine lv_iload_n hx hb dX3_tryWay_14 rfl (lv_at hl 2 rfl) ?_
    obtain ⟨i3, h⟩ := ck_ok h
    refine va_iald hx hb hK hP 1 0 rfl rfl i3 dX3_tryWay_15 ?_
    refine lv_if_ne (tgt := 20) hx hb dX3_tryWay_16 (by decide) (fun c4 => ?_) (fun c4 => ?_)
    · replace h := fn c4 h
      refine lv_aload_n hx hb dX3_tryWay_20 rfl (lv_at hl 0 rfl) ?_
      refine va_get (D := D) (ci := 3) (v := .ref (f 2)) (C := RX3) (T := TX3) (N := 7) hx hb ht i_X3 hown hK hP 0 rfl rfl 2 (by decide) (ht _ wd_77) (fun _ h9 => h9) rfl dX3_tryWay_21 ?_
      refine lv_iload_n hx hb dX3_tryWay_24 rfl (lv_at hl 3 rfl) ?_
      refine lv_iload_n hx hb dX3_tryWay_25 rfl (lv_at hl 2 rfl) ?_
      obtain ⟨i5, h⟩ := ck_ok h
      refine va_iast hx hb hK hP hD hS 2 0 rfl rfl i5 dX3_tryWay_26 (fun H locs hP hD hS => ?_)
      obtain ⟨S6, e7, h⟩ := sv_ok h
      have hP : va_P D classes (wX3 f n cI cC cO S6 N) H := by rw [← e7]; exact hP
      have hD : va_D A (wX3 f n cI cC cO S6 N) := by rw [← e7]; exact hD
      refine lv_aload_n hx hb dX3_tryWay_27 rfl (lv_at hl 0 rfl) ?_
      refine va_get (D := D) (ci := 3) (v := .ref (f 3)) (C := RX3) (T := TX3) (N := 7) hx hb ht i_X3 hown hK hP 0 rfl rfl 3 (by decide) (ht _ wd_78) (fun _ h9 => h9) rfl dX3_tryWay_28 ?_
      refine lv_iload_n hx hb dX3_tryWay_31 rfl (lv_at hl 3 rfl) ?_
      refine lv_iload_n hx hb dX3_tryWay_32 rfl (lv_at hl 1 rfl) ?_
      obtain ⟨i8, h⟩ := ck_ok h
      refine va_iast hx hb hK hP hD hS 3 0 rfl rfl i8 dX3_tryWay_33 (fun H locs hP hD hS => ?_)
      obtain ⟨S9, e10, h⟩ := sv_ok h
      have hP : va_P D classes (wX3 f n cI cC cO S9 N) H := by rw [← e10]; exact hP
      have hD : va_D A (wX3 f n cI cC cO S9 N) := by rw [← e10]; exact hD
      refine lv_aload_n hx hb dX3_tryWay_34 rfl (lv_at hl 0 rfl) ?_
      refine va_get (D := D) (ci := 3) (v := .ref (f 4)) (C := RX3) (T := TX3) (N := 7) hx hb ht i_X3 hown hK hP 0 rfl rfl 4 (by decide) (ht _ wd_79) (fun _ h9 => h9) rfl dX3_tryWay_35 ?_
      refine lv_aload_n hx hb dX3_tryWay_38 rfl (lv_at hl 0 rfl) ?_
      refine va_get (D := D) (ci := 3) (v := .int (S9 4 0)) (C := RX3) (T := TX3) (N := 7) hx hb ht i_X3 hown hK hP 0 rfl rfl 5 (by decide) (ht _ wd_80) (fun _ h9 => h9) rfl dX3_tryWay_39 ?_
      refine lv_iload_n hx hb dX3_tryWay_42 rfl (lv_at hl 3 rfl) ?_
      obtain ⟨i11, h⟩ := ck_ok h
      refine va_iast hx hb hK hP hD hS 4 0 rfl rfl i11 dX3_tryWay_43 (fun H locs hP hD hS => ?_)
      obtain ⟨S12, e13, h⟩ := sv_ok h
      have hP : va_P D classes (wX3 f n cI cC cO S12 N) H := by rw [← e13]; exact hP
      have hD : va_D A (wX3 f n cI cC cO S12 N) := by rw [← e13]; exact hD
      refine lv_aload_n hx hb dX3_tryWay_44 rfl (lv_at hl 0 rfl) ?_
      refine lv_dup hx hb dX3_tryWay_45 rfl ?_
      refine va_get (D := D) (ci := 3) (v := .int (S12 4 0)) (C := RX3) (T := TX3) (N := 7) hx hb ht i_X3 hown hK hP 0 rfl rfl 5 (by decide) (ht _ wd_80) (fun _ h9 => h9) rfl dX3_tryWay_46 ?_
      refine lv_iconst (v := (1 : Int32)) hx hb dX3_tryWay_49 (by decide) ?_
      refine lv_iadd hx hb dX3_tryWay_50 ?_
      refine va_put (D := D) (ci := 3) (v := .int ((S12 4 0) + (1 : Int32))) (ty := .int) (C := RX3) (T := TX3) (N := 7) hx hb ht i_X3 tyX3 tyX3_ok nmX3 hown hK hP hD hS 0 rfl rfl 5 (by decide) (ht _ wd_80) (fun _ h9 => h9) rfl (by decide +kernel) rfl rfl (Nat.le_of_ble_eq_true rfl) dX3_tryWay_51 (fun H locs hP hD hS => ?_)
      obtain ⟨S14, e15, h⟩ := sv_ok h
      have hP : va_P D classes (wX3 f n cI cC cO S14 N) H := by rw [← e15]; exact hP
      have hD : va_D A (wX3 f n cI cC cO S14 N) := by rw [← e15]; exact hD
      refine lv_iload_n hx hb dX3_tryWay_54 rfl (lv_at hl 3 rfl) ?_
      refine lv_bipush (v := (16 : Int32)) hx hb dX3_tryWay_55 (by decide) ?_
      refine lv_icmp_ge (tgt := 65) hx hb dX3_tryWay_57 (by decide) (fun c16 => ?_) (fun c16 => ?_)
      · replace h := fp c16 h
        cases h
        exact rt_v hx hb hr hlocks hS hP hK hD dX3_tryWay_65
      · replace h := fn c16 h
        refine lv_aload_n hx hb dX3_tryWay_60 rfl (lv_at hl 0 rfl) ?_
        refine lv_iload_n hx hb dX3_tryWay_61 rfl (lv_at hl 3 rfl) ?_
        refine va_put (D := D) (ci := 3) (v := .int x3) (ty := .int) (C := RX3) (T := TX3) (N := 7) hx hb ht i_X3 tyX3 tyX3_ok nmX3 hown hK hP hD hS 0 rfl rfl 6 (by decide) (ht _ wd_81) (fun _ h9 => h9) rfl (by decide +kernel) rfl rfl (Nat.le_of_ble_eq_true rfl) dX3_tryWay_62 (fun H locs hP hD hS => ?_)
        obtain ⟨S17, e18, h⟩ := sv_ok h
        have hP : va_P D classes (wX3 f n cI cC cO S17 N) H := by rw [← e18]; exact hP
        have hD : va_D A (wX3 f n cI cC cO S17 N) := by rw [← e18]; exact hD
        cases h
        exact rt_v hx hb hr hlocks hS hP hK hD dX3_tryWay_65
    · replace h := fp c4 h
      cases h
      exact rt_v hx hb hr hlocks hS hP hK hD dX3_tryWay_19
theorem dX3_spread_0 : decode cX3_spread 0 = .ok (.iload_n 1, 1) := by decide +kernel
theorem dX3_spread_1 : decode cX3_spread 1 = .ok (.bipush 16, 2) := by decide +kernel
theorem dX3_spread_3 : decode cX3_spread 3 = .ok (.idiv, 1) := by decide +kernel
theorem dX3_spread_4 : decode cX3_spread 4 = .ok (.istore_n 3, 1) := by decide +kernel
theorem dX3_spread_5 : decode cX3_spread 5 = .ok (.iload_n 1, 1) := by decide +kernel
theorem dX3_spread_6 : decode cX3_spread 6 = .ok (.bipush 16, 2) := by decide +kernel
theorem dX3_spread_8 : decode cX3_spread 8 = .ok (.irem, 1) := by decide +kernel
theorem dX3_spread_9 : decode cX3_spread 9 = .ok (.istore 4, 2) := by decide +kernel
theorem dX3_spread_11 : decode cX3_spread 11 = .ok (.iconst 0, 1) := by decide +kernel
theorem dX3_spread_12 : decode cX3_spread 12 = .ok (.istore 5, 2) := by decide +kernel
theorem dX3_spread_14 : decode cX3_spread 14 = .ok (.iload 5, 2) := by decide +kernel
theorem dX3_spread_16 : decode cX3_spread 16 = .ok (.aload_n 0, 1) := by decide +kernel
theorem dX3_spread_17 : decode cX3_spread 17 = .ok (.getfield 14, 3) := by decide +kernel
theorem dX3_spread_20 : decode cX3_spread 20 = .ok (.getfield 67, 3) := by decide +kernel
theorem dX3_spread_23 : decode cX3_spread 23 = .ok (.if_icmp .ge 129, 3) := by decide +kernel
theorem dX3_spread_26 : decode cX3_spread 26 = .ok (.aload_n 0, 1) := by decide +kernel
theorem dX3_spread_27 : decode cX3_spread 27 = .ok (.getfield 14, 3) := by decide +kernel
theorem dX3_spread_30 : decode cX3_spread 30 = .ok (.iload 5, 2) := by decide +kernel
theorem dX3_spread_32 : decode cX3_spread 32 = .ok (.iconst 0, 1) := by decide +kernel
theorem dX3_spread_33 : decode cX3_spread 33 = .ok (.invokevirtual 50, 3) := by decide +kernel
theorem dX3_spread_36 : decode cX3_spread 36 = .ok (.istore 6, 2) := by decide +kernel
theorem dX3_spread_38 : decode cX3_spread 38 = .ok (.aload_n 0, 1) := by decide +kernel
theorem dX3_spread_39 : decode cX3_spread 39 = .ok (.getfield 14, 3) := by decide +kernel
theorem dX3_spread_42 : decode cX3_spread 42 = .ok (.iload 5, 2) := by decide +kernel
theorem dX3_spread_44 : decode cX3_spread 44 = .ok (.iconst 1, 1) := by decide +kernel
theorem dX3_spread_45 : decode cX3_spread 45 = .ok (.invokevirtual 50, 3) := by decide +kernel
theorem dX3_spread_48 : decode cX3_spread 48 = .ok (.istore 7, 2) := by decide +kernel
theorem dX3_spread_50 : decode cX3_spread 50 = .ok (.aload_n 0, 1) := by decide +kernel
theorem dX3_spread_51 : decode cX3_spread 51 = .ok (.getfield 14, 3) := by decide +kernel
theorem dX3_spread_54 : decode cX3_spread 54 = .ok (.iload 5, 2) := by decide +kernel
theorem dX3_spread_56 : decode cX3_spread 56 = .ok (.iconst 2, 1) := by decide +kernel
theorem dX3_spread_57 : decode cX3_spread 57 = .ok (.invokevirtual 50, 3) := by decide +kernel
theorem dX3_spread_60 : decode cX3_spread 60 = .ok (.istore 8, 2) := by decide +kernel
theorem dX3_spread_62 : decode cX3_spread 62 = .ok (.iload 6, 2) := by decide +kernel
theorem dX3_spread_64 : decode cX3_spread 64 = .ok (.iload_n 3, 1) := by decide +kernel
theorem dX3_spread_65 : decode cX3_spread 65 = .ok (.if_icmp .ne 38, 3) := by decide +kernel
theorem dX3_spread_68 : decode cX3_spread 68 = .ok (.iload 4, 2) := by decide +kernel
theorem dX3_spread_70 : decode cX3_spread 70 = .ok (.iload 8, 2) := by decide +kernel
theorem dX3_spread_72 : decode cX3_spread 72 = .ok (.iadd, 1) := by decide +kernel
theorem dX3_spread_73 : decode cX3_spread 73 = .ok (.iload_n 2, 1) := by decide +kernel
theorem dX3_spread_74 : decode cX3_spread 74 = .ok (.if_icmp .gt 29, 3) := by decide +kernel
theorem dX3_spread_77 : decode cX3_spread 77 = .ok (.aload_n 0, 1) := by decide +kernel
theorem dX3_spread_78 : decode cX3_spread 78 = .ok (.iload_n 1, 1) := by decide +kernel
theorem dX3_spread_79 : decode cX3_spread 79 = .ok (.iload 5, 2) := by decide +kernel
theorem dX3_spread_81 : decode cX3_spread 81 = .ok (.iload 4, 2) := by decide +kernel
theorem dX3_spread_83 : decode cX3_spread 83 = .ok (.invokestatic 76, 3) := by decide +kernel
theorem dX3_spread_86 : decode cX3_spread 86 = .ok (.iload 7, 2) := by decide +kernel
theorem dX3_spread_88 : decode cX3_spread 88 = .ok (.bipush 16, 2) := by decide +kernel
theorem dX3_spread_90 : decode cX3_spread 90 = .ok (.imul, 1) := by decide +kernel
theorem dX3_spread_91 : decode cX3_spread 91 = .ok (.iload 4, 2) := by decide +kernel
theorem dX3_spread_93 : decode cX3_spread 93 = .ok (.iadd, 1) := by decide +kernel
theorem dX3_spread_94 : decode cX3_spread 94 = .ok (.iload 8, 2) := by decide +kernel
theorem dX3_spread_96 : decode cX3_spread 96 = .ok (.iadd, 1) := by decide +kernel
theorem dX3_spread_97 : decode cX3_spread 97 = .ok (.invokevirtual 120, 3) := by decide +kernel
theorem dX3_spread_100 : decode cX3_spread 100 = .ok (.goto 46, 3) := by decide +kernel
theorem dX3_spread_103 : decode cX3_spread 103 = .ok (.iload 7, 2) := by decide +kernel
theorem dX3_spread_105 : decode cX3_spread 105 = .ok (.iload_n 3, 1) := by decide +kernel
theorem dX3_spread_106 : decode cX3_spread 106 = .ok (.if_icmp .ne 40, 3) := by decide +kernel
theorem dX3_spread_109 : decode cX3_spread 109 = .ok (.iload 4, 2) := by decide +kernel
theorem dX3_spread_111 : decode cX3_spread 111 = .ok (.iload 8, 2) := by decide +kernel
theorem dX3_spread_113 : decode cX3_spread 113 = .ok (.isub, 1) := by decide +kernel
theorem dX3_spread_114 : decode cX3_spread 114 = .ok (.ifCond .lt 32, 3) := by decide +kernel
theorem dX3_spread_117 : decode cX3_spread 117 = .ok (.aload_n 0, 1) := by decide +kernel
theorem dX3_spread_118 : decode cX3_spread 118 = .ok (.iload_n 1, 1) := by decide +kernel
theorem dX3_spread_119 : decode cX3_spread 119 = .ok (.iload 5, 2) := by decide +kernel
theorem dX3_spread_121 : decode cX3_spread 121 = .ok (.iload 4, 2) := by decide +kernel
theorem dX3_spread_123 : decode cX3_spread 123 = .ok (.iload 8, 2) := by decide +kernel
theorem dX3_spread_125 : decode cX3_spread 125 = .ok (.isub, 1) := by decide +kernel
theorem dX3_spread_126 : decode cX3_spread 126 = .ok (.invokestatic 76, 3) := by decide +kernel
theorem dX3_spread_129 : decode cX3_spread 129 = .ok (.invokestatic 79, 3) := by decide +kernel
theorem dX3_spread_132 : decode cX3_spread 132 = .ok (.iload 6, 2) := by decide +kernel
theorem dX3_spread_134 : decode cX3_spread 134 = .ok (.bipush 16, 2) := by decide +kernel
theorem dX3_spread_136 : decode cX3_spread 136 = .ok (.imul, 1) := by decide +kernel
theorem dX3_spread_137 : decode cX3_spread 137 = .ok (.iload 4, 2) := by decide +kernel
theorem dX3_spread_139 : decode cX3_spread 139 = .ok (.iadd, 1) := by decide +kernel
theorem dX3_spread_140 : decode cX3_spread 140 = .ok (.iload 8, 2) := by decide +kernel
theorem dX3_spread_142 : decode cX3_spread 142 = .ok (.isub, 1) := by decide +kernel
theorem dX3_spread_143 : decode cX3_spread 143 = .ok (.invokevirtual 120, 3) := by decide +kernel
theorem dX3_spread_146 : decode cX3_spread 146 = .ok (.iinc 5 1, 3) := by decide +kernel
theorem dX3_spread_149 : decode cX3_spread 149 = .ok (.goto (-135), 3) := by decide +kernel
theorem dX3_spread_152 : decode cX3_spread 152 = .ok (.iload 4, 2) := by decide +kernel
theorem dX3_spread_154 : decode cX3_spread 154 = .ok (.iconst 1, 1) := by decide +kernel
theorem dX3_spread_155 : decode cX3_spread 155 = .ok (.iadd, 1) := by decide +kernel
theorem dX3_spread_156 : decode cX3_spread 156 = .ok (.iload_n 2, 1) := by decide +kernel
theorem dX3_spread_157 : decode cX3_spread 157 = .ok (.if_icmp .gt 15, 3) := by decide +kernel
theorem dX3_spread_160 : decode cX3_spread 160 = .ok (.aload_n 0, 1) := by decide +kernel
theorem dX3_spread_161 : decode cX3_spread 161 = .ok (.iload_n 1, 1) := by decide +kernel
theorem dX3_spread_162 : decode cX3_spread 162 = .ok (.iload_n 1, 1) := by decide +kernel
theorem dX3_spread_163 : decode cX3_spread 163 = .ok (.invokestatic 109, 3) := by decide +kernel
theorem dX3_spread_166 : decode cX3_spread 166 = .ok (.iload_n 1, 1) := by decide +kernel
theorem dX3_spread_167 : decode cX3_spread 167 = .ok (.iconst 1, 1) := by decide +kernel
theorem dX3_spread_168 : decode cX3_spread 168 = .ok (.iadd, 1) := by decide +kernel
theorem dX3_spread_169 : decode cX3_spread 169 = .ok (.invokevirtual 120, 3) := by decide +kernel
theorem dX3_spread_172 : decode cX3_spread 172 = .ok (.iload 4, 2) := by decide +kernel
theorem dX3_spread_174 : decode cX3_spread 174 = .ok (.iconst 1, 1) := by decide +kernel
theorem dX3_spread_175 : decode cX3_spread 175 = .ok (.isub, 1) := by decide +kernel
theorem dX3_spread_176 : decode cX3_spread 176 = .ok (.ifCond .lt 20, 3) := by decide +kernel
theorem dX3_spread_179 : decode cX3_spread 179 = .ok (.aload_n 0, 1) := by decide +kernel
theorem dX3_spread_180 : decode cX3_spread 180 = .ok (.iload_n 1, 1) := by decide +kernel
theorem dX3_spread_181 : decode cX3_spread 181 = .ok (.iload_n 1, 1) := by decide +kernel
theorem dX3_spread_182 : decode cX3_spread 182 = .ok (.iconst 1, 1) := by decide +kernel
theorem dX3_spread_183 : decode cX3_spread 183 = .ok (.isub, 1) := by decide +kernel
theorem dX3_spread_184 : decode cX3_spread 184 = .ok (.invokestatic 109, 3) := by decide +kernel
theorem dX3_spread_187 : decode cX3_spread 187 = .ok (.invokestatic 79, 3) := by decide +kernel
theorem dX3_spread_190 : decode cX3_spread 190 = .ok (.iload_n 1, 1) := by decide +kernel
theorem dX3_spread_191 : decode cX3_spread 191 = .ok (.iconst 1, 1) := by decide +kernel
theorem dX3_spread_192 : decode cX3_spread 192 = .ok (.isub, 1) := by decide +kernel
theorem dX3_spread_193 : decode cX3_spread 193 = .ok (.invokevirtual 120, 3) := by decide +kernel
theorem dX3_spread_196 : decode cX3_spread 196 = .ok (.return_, 1) := by decide +kernel
set_option maxHeartbeats 4000000 in
set_option maxRecDepth 100000 in
theorem c_X3_spread (l : Launch) (D : va_G) (cI cC cO : ClassId) (f : Nat → Nat) (n : Nat → Nat) (S : Mm) (N : Mm) (x1 x2 : Int32) (res : Mm) (sz : Nat) (h : F_X3_spread S N x1 x2 = some res) : Met l yX3_spread (Cond.code yX3_spread cX3_spread 9 (Option.none : Option Jvm.ClassFile.FieldType) :: lw_g) ({ frames := 1, cells := 0, slots := 0, locals := 23 } : Room) (va_Pc [.ref (f 0), .int x1, .int x2] (pS D cI cC cO sz (wX3 f n cI cC cO S N))) (QV D cI cC cO (va_A (wX3 f n cI cC cO S N) sz) (wX3 f n cI cC cO res N)) 0 0 (va_A (wX3 f n cI cC cO S N) sz) := by
  refine Met.ofW (cc := cX3_spread) (maxL := 9) (ret := (Option.none : Option Jvm.ClassFile.FieldType)) (by decide) rfl ?_
  intro p e s m args below meth c s₁ B hml hv
  obtain ⟨rfl, rfl, hP, hK, hD0, hN⟩ := hv
  have hx := B.exec
  have hb := B.bytes
  have hr := B.returns
  have ht : ∀ w ∈ lw_g, w.before ([.ref (f 0), .int x1, .int x2] : List Value).toArray s = true := fun w hw => atoms_spec (ws := Cond.code yX3_spread cX3_spread 9 (Option.none : Option Jvm.ClassFile.FieldType) :: lw_g) B.pre w (List.mem_cons_of_mem _ hw)
  have hown : s.vm.findClass RX3 = some m.cls := findClass_of_methodNamed B.named
  have hlocks := B.notSynchronized
  have hD := hD0.self (sz := s.heap.size)
  generalize hAe : va_A (wX3 f n cI cC cO S N) s.heap.size = A at hD ⊢
  have hA : ∀ q : Nat, s.heap.size ≤ q → A q := fun q hq => by rw [← hAe]; exact Or.inr hq
  have hS : va_S A s.heap s.heap [] := va_S.rf
  have hl := lv_entry ([.ref (f 0), .int x1, .int x2]) (n := 9) (Nat.le_of_ble_eq_true rfl)
  rw [lg_entry_eq]
  generalize (lg_sl ([.ref (f 0), .int x1, .int x2]) ++ List.replicate (9 - (lg_sl ([.ref (f 0), .int x1, .int x2])).length) Slot.unset).toArray = ls at hl ⊢
  have hl : lv_has ls 9 [(0, .ref (f 0)), (1, .int x1), (2, .int x2)] := hl
  have w172 : ∀ (S : Mm) (y1 y4 : Int32) (H : Heap) (locs : List Loc) (ls : Array Slot), F_X3_spread_172 S N y1 y4 = some res → va_P D classes (wX3 f n cI cC cO S N) H → va_D A (wX3 f n cI cC cO S N) → va_S A s.heap H locs → lv_has ls 9 [(0, .ref (f 0)), (1, .int y1), (4, .int y4)] → W p l e ({ frames := 1, cells := 0, slots := 0, locals := 23 } : Room) s m ([.ref (f 0), .int x1, .int x2] : List Value).toArray below meth c H locs 0 0 (MQ below (QV D cI cC cO A (wX3 f n cI cC cO res N)) ([.ref (f 0), .int x1, .int x2] : List Value).toArray s 0 0 A) (F0 m 172 ls []) := by
    intro S y1 y4 H locs ls h hP hD hS hl
    unfold F_X3_spread_172 at h
    refine lv_iload hx hb dX3_spread_172 (lv_at hl 2 rfl) ?_
    refine lv_iconst (v := (1 : Int32)) hx hb dX3_spread_174 (by decide) ?_
    refine lv_isub hx hb dX3_spread_175 ?_
    refine lv_if_lt (tgt := 196) hx hb dX3_spread_176 (by decide) (fun c1 => ?_) (fun c1 => ?_)
    · replace h := fp c1 h
      cases h
      exact rt_v hx hb hr hlocks hS hP hK hD dX3_spread_196
    · replace h := fn c1 h
      refine lv_aload_n hx hb dX3_spread_179 rfl (lv_at hl 0 rfl) ?_
      refine lv_iload_n hx hb dX3_spread_180 rfl (lv_at hl 1 rfl) ?_
      refine lv_iload_n hx hb dX3_spread_181 rfl (lv_at hl 1 rfl) ?_
      refine lv_iconst (v := (1 : Int32)) hx hb dX3_spread_182 (by decide) ?_
      refine lv_isub hx hb dX3_spread_183 ?_
      obtain ⟨u2, e3, h⟩ := b1_ok h
      refine cl_Si (ws' := (wX3 f n cI cC cO S N)) ⟨hx, hb, hml, hown, ht⟩ (c_X3_waiting l D cI cC cO (y1 - (1 : Int32)) _ _ e3) (cwst 1 ht wd_314 wd_4 wd_312 wd_313 (by decide +kernel) rfl rfl ⟨Nat.le_of_ble_eq_true rfl, Nat.le_of_ble_eq_true rfl⟩) hK hP hD hS hA hN [] [0, 1, 2, 3, 4, 5, 6, 7, 8] [0, 1, 2, 3, 4, 5, 6, 7, 8] (by decide) rfl rfl (by decide) (by decide) rfl (by decide) rfl hl.1 rfl (Nat.le_of_ble_eq_true rfl) dX3_spread_184 ⟨Nat.le_of_ble_eq_true rfl, Nat.le_of_ble_eq_true rfl⟩ (fun H locs hP hD hS => ?_)
      obtain ⟨u4, e5, h⟩ := b1_ok h
      refine cl_Si (ws' := (wX3 f n cI cC cO S N)) ⟨hx, hb, hml, hown, ht⟩ (c_X3_back l D cI cC cO u2 _ _ e5) (cwst 1 ht wd_308 wd_4 wd_306 wd_307 (by decide +kernel) rfl rfl ⟨Nat.le_of_ble_eq_true rfl, Nat.le_of_ble_eq_true rfl⟩) hK hP hD hS hA hN [] [0, 1, 2, 3, 4, 5, 6, 7, 8] [0, 1, 2, 3, 4, 5, 6, 7, 8] (by decide) rfl rfl (by decide) (by decide) rfl (by decide) rfl hl.1 rfl (Nat.le_of_ble_eq_true rfl) dX3_spread_187 ⟨Nat.le_of_ble_eq_true rfl, Nat.le_of_ble_eq_true rfl⟩ (fun H locs hP hD hS => ?_)
      refine lv_iload_n hx hb dX3_spread_190 rfl (lv_at hl 1 rfl) ?_
      refine lv_iconst (v := (1 : Int32)) hx hb dX3_spread_191 (by decide) ?_
      refine lv_isub hx hb dX3_spread_192 ?_
      obtain ⟨S6, e7, h⟩ := b1_ok h
      refine cl_Vv (ws' := (wX3 f n cI cC cO S6 N)) ⟨hx, hb, hml, hown, ht⟩ (c_X3_tryWay l D cI cC cO f n S N y1 u4 (y1 - (1 : Int32)) _ _ e7) (cwv 3 ht wd_327 wd_4 wd_324 wd_326 ws_6 (by decide +kernel) rfl rfl ⟨Nat.le_of_ble_eq_true rfl, Nat.le_of_ble_eq_true rfl⟩) 3 0 rfl rfl rfl hK hP hD hS hA hN [0, 1, 2, 3, 4, 5, 6, 7, 8] [] [0, 1, 2, 3, 4, 5, 6, 7, 8] (by decide) rfl rfl (by decide) (by decide) rfl (by decide) rfl hl.1 rfl (Nat.le_of_ble_eq_true rfl) dX3_spread_193 ⟨Nat.le_of_ble_eq_true rfl, Nat.le_of_ble_eq_true rfl⟩ (fun H locs hP hD hS => ?_)
      cases h
      exact rt_v hx hb hr hlocks hS hP hK hD dX3_spread_196
  have w14 : ∀ (n14 : Nat) (S : Mm) (y1 y2 y3 y4 y5 : Int32) (H : Heap) (locs : List Loc) (ls : Array Slot), F_X3_spread_14 n14 S N y1 y2 y3 y4 y5 = some res → va_P D classes (wX3 f n cI cC cO S N) H → va_D A (wX3 f n cI cC cO S N) → va_S A s.heap H locs → lv_has ls 9 [(0, .ref (f 0)), (1, .int y1), (2, .int y2), (3, .int y3), (4, .int y4), (5, .int y5)] → W p l e ({ frames := 1, cells := 0, slots := 0, locals := 23 } : Room) s m ([.ref (f 0), .int x1, .int x2] : List Value).toArray below meth c H locs 0 0 (MQ below (QV D cI cC cO A (wX3 f n cI cC cO res N)) ([.ref (f 0), .int x1, .int x2] : List Value).toArray s 0 0 A) (F0 m 14 ls []) := by
    intro n14
    induction n14 with
    | zero => intro S y1 y2 y3 y4 y5 H locs ls h hP hD hS hl; exact absurd (show (none : Option (Mm)) = some res from h) (by simp)
    | succ n14 ih14 =>
      have w103 : ∀ (S : Mm) (y1 y2 y3 y4 y5 y6 y7 y8 : Int32) (H : Heap) (locs : List Loc) (ls : Array Slot), F_X3_spread_103 (F_X3_spread_14 n14) S N y1 y2 y3 y4 y5 y6 y7 y8 = some res → va_P D classes (wX3 f n cI cC cO S N) H → va_D A (wX3 f n cI cC cO S N) → va_S A s.heap H locs → lv_has ls 9 [(0, .ref (f 0)), (1, .int y1), (2, .int y2), (3, .int y3), (4, .int y4), (5, .int y5), (6, .int y6), (7, .int y7), (8, .int y8)] → W p l e ({ frames := 1, cells := 0, slots := 0, locals := 23 } : Room) s m ([.ref (f 0), .int x1, .int x2] : List Value).toArray below meth c H locs 0 0 (MQ below (QV D cI cC cO A (wX3 f n cI cC cO res N)) ([.ref (f 0), .int x1, .int x2] : List Value).toArray s 0 0 A) (F0 m 103 ls []) := by
        intro S y1 y2 y3 y4 y5 y6 y7 y8 H locs ls h hP hD hS hl
        unfold F_X3_spread_103 at h
        refine lv_iload hx hb dX3_spread_103 (lv_at hl 7 rfl) ?_
        refine lv_iload_n hx hb dX3_spread_105 rfl (lv_at hl 3 rfl) ?_
        refine lv_icmp_ne (tgt := 146) hx hb dX3_spread_106 (by decide) (fun c1 => ?_) (fun c1 => ?_)
        · replace h := fn c1 h
          refine lv_iinc (v := (y5 + 1)) (lv' := [(5, .int (y5 + 1)), (0, .ref (f 0)), (1, .int y1), (2, .int y2), (3, .int y3), (4, .int y4), (6, .int y6), (7, .int y7), (8, .int y8)]) hx hb dX3_spread_146 hl (k := 5) rfl rfl (by decide) rfl (fun ls hl => ?_)
          refine lv_goto (tgt := 14) hx hb dX3_spread_149 (by decide) ?_
          exact ih14 S y1 y2 y3 y4 (y5 + 1) _ _ ls h hP hD hS (lv_sub hl [1, 2, 3, 4, 5, 0] rfl)
        · replace h := fp c1 h
          refine lv_iload hx hb dX3_spread_109 (lv_at hl 4 rfl) ?_
          refine lv_iload hx hb dX3_spread_111 (lv_at hl 8 rfl) ?_
          refine lv_isub hx hb dX3_spread_113 ?_
          refine lv_if_lt (tgt := 146) hx hb dX3_spread_114 (by decide) (fun c2 => ?_) (fun c2 => ?_)
          · replace h := fp c2 h
            refine lv_iinc (v := (y5 + 1)) (lv' := [(5, .int (y5 + 1)), (0, .ref (f 0)), (1, .int y1), (2, .int y2), (3, .int y3), (4, .int y4), (6, .int y6), (7, .int y7), (8, .int y8)]) hx hb dX3_spread_146 hl (k := 5) rfl rfl (by decide) rfl (fun ls hl => ?_)
            refine lv_goto (tgt := 14) hx hb dX3_spread_149 (by decide) ?_
            exact ih14 S y1 y2 y3 y4 (y5 + 1) _ _ ls h hP hD hS (lv_sub hl [1, 2, 3, 4, 5, 0] rfl)
          · replace h := fn c2 h
            refine lv_aload_n hx hb dX3_spread_117 rfl (lv_at hl 0 rfl) ?_
            refine lv_iload_n hx hb dX3_spread_118 rfl (lv_at hl 1 rfl) ?_
            refine lv_iload hx hb dX3_spread_119 (lv_at hl 5 rfl) ?_
            refine lv_iload hx hb dX3_spread_121 (lv_at hl 4 rfl) ?_
            refine lv_iload hx hb dX3_spread_123 (lv_at hl 8 rfl) ?_
            refine lv_isub hx hb dX3_spread_125 ?_
            obtain ⟨u3, e4, h⟩ := b1_ok h
            refine cl_Si (ws' := (wX3 f n cI cC cO S N)) ⟨hx, hb, hml, hown, ht⟩ (c_X3_through l D cI cC cO y5 (y4 - y8) _ _ e4) (cwst 2 ht wd_297 wd_4 wd_295 wd_296 (by decide +kernel) rfl rfl ⟨Nat.le_of_ble_eq_true rfl, Nat.le_of_ble_eq_true rfl⟩) hK hP hD hS hA hN [] [0, 1, 2, 3, 4, 5, 6, 7, 8] [0, 1, 2, 3, 4, 5, 6, 7, 8] (by decide) rfl rfl (by decide) (by decide) rfl (by decide) rfl hl.1 rfl (Nat.le_of_ble_eq_true rfl) dX3_spread_126 ⟨Nat.le_of_ble_eq_true rfl, Nat.le_of_ble_eq_true rfl⟩ (fun H locs hP hD hS => ?_)
            obtain ⟨u5, e6, h⟩ := b1_ok h
            refine cl_Si (ws' := (wX3 f n cI cC cO S N)) ⟨hx, hb, hml, hown, ht⟩ (c_X3_back l D cI cC cO u3 _ _ e6) (cwst 1 ht wd_308 wd_4 wd_306 wd_307 (by decide +kernel) rfl rfl ⟨Nat.le_of_ble_eq_true rfl, Nat.le_of_ble_eq_true rfl⟩) hK hP hD hS hA hN [] [0, 1, 2, 3, 4, 5, 6, 7, 8] [0, 1, 2, 3, 4, 5, 6, 7, 8] (by decide) rfl rfl (by decide) (by decide) rfl (by decide) rfl hl.1 rfl (Nat.le_of_ble_eq_true rfl) dX3_spread_129 ⟨Nat.le_of_ble_eq_true rfl, Nat.le_of_ble_eq_true rfl⟩ (fun H locs hP hD hS => ?_)
            refine lv_iload hx hb dX3_spread_132 (lv_at hl 6 rfl) ?_
            refine lv_bipush (v := (16 : Int32)) hx hb dX3_spread_134 (by decide) ?_
            refine lv_imul hx hb dX3_spread_136 ?_
            refine lv_iload hx hb dX3_spread_137 (lv_at hl 4 rfl) ?_
            refine lv_iadd hx hb dX3_spread_139 ?_
            refine lv_iload hx hb dX3_spread_140 (lv_at hl 8 rfl) ?_
            refine lv_isub hx hb dX3_spread_142 ?_
            obtain ⟨S7, e8, h⟩ := b1_ok h
            refine cl_Vv (ws' := (wX3 f n cI cC cO S7 N)) ⟨hx, hb, hml, hown, ht⟩ (c_X3_tryWay l D cI cC cO f n S N y1 u5 (((y6 * (16 : Int32)) + y4) - y8) _ _ e8) (cwv 3 ht wd_327 wd_4 wd_324 wd_326 ws_6 (by decide +kernel) rfl rfl ⟨Nat.le_of_ble_eq_true rfl, Nat.le_of_ble_eq_true rfl⟩) 3 0 rfl rfl rfl hK hP hD hS hA hN [0, 1, 2, 3, 4, 5, 6, 7, 8] [] [0, 1, 2, 3, 4, 5, 6, 7, 8] (by decide) rfl rfl (by decide) (by decide) rfl (by decide) rfl hl.1 rfl (Nat.le_of_ble_eq_true rfl) dX3_spread_143 ⟨Nat.le_of_ble_eq_true rfl, Nat.le_of_ble_eq_true rfl⟩ (fun H locs hP hD hS => ?_)
            refine lv_iinc (v := (y5 + 1)) (lv' := [(5, .int (y5 + 1)), (0, .ref (f 0)), (1, .int y1), (2, .int y2), (3, .int y3), (4, .int y4), (6, .int y6), (7, .int y7), (8, .int y8)]) hx hb dX3_spread_146 hl (k := 5) rfl rfl (by decide) rfl (fun ls hl => ?_)
            refine lv_goto (tgt := 14) hx hb dX3_spread_149 (by decide) ?_
            exact ih14 S7 y1 y2 y3 y4 (y5 + 1) _ _ ls h hP hD hS (lv_sub hl [1, 2, 3, 4, 5, 0] rfl)
      intro S y1 y2 y3 y4 y5 H locs ls h hP hD hS hl
      have h : F_X3_spreadB_14 (F_X3_spread_14 n14) S N y1 y2 y3 y4 y5 = some res := h
      unfold F_X3_spreadB_14 at h
      refine lv_iload hx hb dX3_spread_14 (lv_at hl 5 rfl) ?_
      refine lv_aload_n hx hb dX3_spread_16 rfl (lv_at hl 0 rfl) ?_
      refine va_get (D := D) (ci := 3) (v := .ref (n 0)) (C := RX3) (T := TX3) (N := 7) hx hb ht i_X3 hown hK hP 0 rfl rfl 0 (by decide) (ht _ wd_75) (fun _ h9 => h9) rfl dX3_spread_17 ?_
      refine va_getN (D := D) (ci := 1) (v := .int (N 3 1)) (C := RX1) (T := TX1) (N := 5) hx hb ht i_X1 hown hK hP 5 rfl rfl 4 (by decide) (va_Nw.use rfl (hN.1 _ _ _ _ _ _ wd_37)) (fun _ h9 => h9) rfl dX3_spread_20 ?_
      refine lv_icmp_ge (tgt := 152) hx hb dX3_spread_23 (by decide) (fun c1 => ?_) (fun c1 => ?_)
      · replace h := fp c1 h
        refine lv_iload hx hb dX3_spread_152 (lv_at hl 4 rfl) ?_
        refine lv_iconst (v := (1 : Int32)) hx hb dX3_spread_154 (by decide) ?_
        refine lv_iadd hx hb dX3_spread_155 ?_
        refine lv_iload_n hx hb dX3_spread_156 rfl (lv_at hl 2 rfl) ?_
        refine lv_icmp_gt (tgt := 172) hx hb dX3_spread_157 (by decide) (fun c2 => ?_) (fun c2 => ?_)
        · replace h := fp c2 h
          exact w172 S y1 y4 _ _ ls h hP hD hS (lv_sub hl [0, 1, 4] rfl)
        · replace h := fn c2 h
          refine lv_aload_n hx hb dX3_spread_160 rfl (lv_at hl 0 rfl) ?_
          refine lv_iload_n hx hb dX3_spread_161 rfl (lv_at hl 1 rfl) ?_
          refine lv_iload_n hx hb dX3_spread_162 rfl (lv_at hl 1 rfl) ?_
          obtain ⟨u3, e4, h⟩ := b1_ok h
          refine cl_Si (ws' := (wX3 f n cI cC cO S N)) ⟨hx, hb, hml, hown, ht⟩ (c_X3_waiting l D cI cC cO y1 _ _ e4) (cwst 1 ht wd_314 wd_4 wd_312 wd_313 (by decide +kernel) rfl rfl ⟨Nat.le_of_ble_eq_true rfl, Nat.le_of_ble_eq_true rfl⟩) hK hP hD hS hA hN [] [0, 1, 2, 3, 4, 5, 6, 7, 8] [0, 1, 2, 3, 4, 5, 6, 7, 8] (by decide) rfl rfl (by decide) (by decide) rfl (by decide) rfl hl.1 rfl (Nat.le_of_ble_eq_true rfl) dX3_spread_163 ⟨Nat.le_of_ble_eq_true rfl, Nat.le_of_ble_eq_true rfl⟩ (fun H locs hP hD hS => ?_)
          refine lv_iload_n hx hb dX3_spread_166 rfl (lv_at hl 1 rfl) ?_
          refine lv_iconst (v := (1 : Int32)) hx hb dX3_spread_167 (by decide) ?_
          refine lv_iadd hx hb dX3_spread_168 ?_
          obtain ⟨S5, e6, h⟩ := b1_ok h
          refine cl_Vv (ws' := (wX3 f n cI cC cO S5 N)) ⟨hx, hb, hml, hown, ht⟩ (c_X3_tryWay l D cI cC cO f n S N y1 u3 (y1 + (1 : Int32)) _ _ e6) (cwv 3 ht wd_327 wd_4 wd_324 wd_326 ws_6 (by decide +kernel) rfl rfl ⟨Nat.le_of_ble_eq_true rfl, Nat.le_of_ble_eq_true rfl⟩) 3 0 rfl rfl rfl hK hP hD hS hA hN [0, 1, 2, 3, 4, 5, 6, 7, 8] [] [0, 1, 2, 3, 4, 5, 6, 7, 8] (by decide) rfl rfl (by decide) (by decide) rfl (by decide) rfl hl.1 rfl (Nat.le_of_ble_eq_true rfl) dX3_spread_169 ⟨Nat.le_of_ble_eq_true rfl, Nat.le_of_ble_eq_true rfl⟩ (fun H locs hP hD hS => ?_)
          exact w172 S5 y1 y4 _ _ ls h hP hD hS (lv_sub hl [0, 1, 4] rfl)
      · replace h := fn c1 h
        refine lv_aload_n hx hb dX3_spread_26 rfl (lv_at hl 0 rfl) ?_
        refine va_get (D := D) (ci := 3) (v := .ref (n 0)) (C := RX3) (T := TX3) (N := 7) hx hb ht i_X3 hown hK hP 0 rfl rfl 0 (by decide) (ht _ wd_75) (fun _ h9 => h9) rfl dX3_spread_27 ?_
        refine lv_iload hx hb dX3_spread_30 (lv_at hl 5 rfl) ?_
        refine lv_iconst (v := (0 : Int32)) hx hb dX3_spread_32 (by decide) ?_
        obtain ⟨u7, e8, h⟩ := b1_ok h
        refine cl_Vi (ws' := (wX3 f n cI cC cO S N)) ⟨hx, hb, hml, hown, ht⟩ (c_X1_partOf l D cI cC cO n N y5 (0 : Int32) _ _ e8) (cwv 2 ht wd_251 wd_2 wd_332 wd_249 wd_250 (by decide +kernel) rfl rfl ⟨Nat.le_of_ble_eq_true rfl, Nat.le_of_ble_eq_true rfl⟩) 1 0 rfl rfl rfl hK hP hD hS hA hN [5, 6, 7, 8] [0, 1, 2, 3, 4] [0, 1, 2, 3, 4, 5, 6, 7, 8] (by decide) rfl rfl (by decide) (by decide) rfl (by decide) rfl hl.1 rfl (Nat.le_of_ble_eq_true rfl) dX3_spread_33 ⟨Nat.le_of_ble_eq_true rfl, Nat.le_of_ble_eq_true rfl⟩ (fun H locs hP hD hS => ?_)
        refine lv_istore (lv' := [(6, .int u7), (0, .ref (f 0)), (1, .int y1), (2, .int y2), (3, .int y3), (4, .int y4), (5, .int y5)]) hx hb dX3_spread_36 hl (by decide) rfl (fun ls hl => ?_)
        refine lv_aload_n hx hb dX3_spread_38 rfl (lv_at hl 1 rfl) ?_
        refine va_get (D := D) (ci := 3) (v := .ref (n 0)) (C := RX3) (T := TX3) (N := 7) hx hb ht i_X3 hown hK hP 0 rfl rfl 0 (by decide) (ht _ wd_75) (fun _ h9 => h9) rfl dX3_spread_39 ?_
        refine lv_iload hx hb dX3_spread_42 (lv_at hl 6 rfl) ?_
        refine lv_iconst (v := (1 : Int32)) hx hb dX3_spread_44 (by decide) ?_
        obtain ⟨u9, e10, h⟩ := b1_ok h
        refine cl_Vi (ws' := (wX3 f n cI cC cO S N)) ⟨hx, hb, hml, hown, ht⟩ (c_X1_partOf l D cI cC cO n N y5 (1 : Int32) _ _ e10) (cwv 2 ht wd_251 wd_2 wd_332 wd_249 wd_250 (by decide +kernel) rfl rfl ⟨Nat.le_of_ble_eq_true rfl, Nat.le_of_ble_eq_true rfl⟩) 1 0 rfl rfl rfl hK hP hD hS hA hN [5, 6, 7, 8] [0, 1, 2, 3, 4] [0, 1, 2, 3, 4, 5, 6, 7, 8] (by decide) rfl rfl (by decide) (by decide) rfl (by decide) rfl hl.1 rfl (Nat.le_of_ble_eq_true rfl) dX3_spread_45 ⟨Nat.le_of_ble_eq_true rfl, Nat.le_of_ble_eq_true rfl⟩ (fun H locs hP hD hS => ?_)
        refine lv_istore (lv' := [(7, .int u9), (6, .int u7), (0, .ref (f 0)), (1, .int y1), (2, .int y2), (3, .int y3), (4, .int y4), (5, .int y5)]) hx hb dX3_spread_48 hl (by decide) rfl (fun ls hl => ?_)
        refine lv_aload_n hx hb dX3_spread_50 rfl (lv_at hl 2 rfl) ?_
        refine va_get (D := D) (ci := 3) (v := .ref (n 0)) (C := RX3) (T := TX3) (N := 7) hx hb ht i_X3 hown hK hP 0 rfl rfl 0 (by decide) (ht _ wd_75) (fun _ h9 => h9) rfl dX3_spread_51 ?_
        refine lv_iload hx hb dX3_spread_54 (lv_at hl 7 rfl) ?_
        refine lv_iconst (v := (2 : Int32)) hx hb dX3_spread_56 (by decide) ?_
        obtain ⟨u11, e12, h⟩ := b1_ok h
        refine cl_Vi (ws' := (wX3 f n cI cC cO S N)) ⟨hx, hb, hml, hown, ht⟩ (c_X1_partOf l D cI cC cO n N y5 (2 : Int32) _ _ e12) (cwv 2 ht wd_251 wd_2 wd_332 wd_249 wd_250 (by decide +kernel) rfl rfl ⟨Nat.le_of_ble_eq_true rfl, Nat.le_of_ble_eq_true rfl⟩) 1 0 rfl rfl rfl hK hP hD hS hA hN [5, 6, 7, 8] [0, 1, 2, 3, 4] [0, 1, 2, 3, 4, 5, 6, 7, 8] (by decide) rfl rfl (by decide) (by decide) rfl (by decide) rfl hl.1 rfl (Nat.le_of_ble_eq_true rfl) dX3_spread_57 ⟨Nat.le_of_ble_eq_true rfl, Nat.le_of_ble_eq_true rfl⟩ (fun H locs hP hD hS => ?_)
        refine lv_istore (lv' := [(8, .int u11), (7, .int u9), (6, .int u7), (0, .ref (f 0)), (1, .int y1), (2, .int y2), (3, .int y3), (4, .int y4), (5, .int y5)]) hx hb dX3_spread_60 hl (by decide) rfl (fun ls hl => ?_)
        refine lv_iload hx hb dX3_spread_62 (lv_at hl 2 rfl) ?_
        refine lv_iload_n hx hb dX3_spread_64 rfl (lv_at hl 6 rfl) ?_
        refine lv_icmp_ne (tgt := 103) hx hb dX3_spread_65 (by decide) (fun c13 => ?_) (fun c13 => ?_)
        · replace h := fn c13 h
          exact w103 S y1 y2 y3 y4 y5 u7 u9 u11 _ _ ls h hP hD hS (lv_sub hl [3, 4, 5, 6, 7, 8, 2, 1, 0] rfl)
        · replace h := fp c13 h
          refine lv_iload hx hb dX3_spread_68 (lv_at hl 7 rfl) ?_
          refine lv_iload hx hb dX3_spread_70 (lv_at hl 0 rfl) ?_
          refine lv_iadd hx hb dX3_spread_72 ?_
          refine lv_iload_n hx hb dX3_spread_73 rfl (lv_at hl 5 rfl) ?_
          refine lv_icmp_gt (tgt := 103) hx hb dX3_spread_74 (by decide) (fun c14 => ?_) (fun c14 => ?_)
          · replace h := fp c14 h
            exact w103 S y1 y2 y3 y4 y5 u7 u9 u11 _ _ ls h hP hD hS (lv_sub hl [3, 4, 5, 6, 7, 8, 2, 1, 0] rfl)
          · replace h := fn c14 h
            refine lv_aload_n hx hb dX3_spread_77 rfl (lv_at hl 3 rfl) ?_
            refine lv_iload_n hx hb dX3_spread_78 rfl (lv_at hl 4 rfl) ?_
            refine lv_iload hx hb dX3_spread_79 (lv_at hl 8 rfl) ?_
            refine lv_iload hx hb dX3_spread_81 (lv_at hl 7 rfl) ?_
            obtain ⟨u15, e16, h⟩ := b1_ok h
            refine cl_Si (ws' := (wX3 f n cI cC cO S N)) ⟨hx, hb, hml, hown, ht⟩ (c_X3_through l D cI cC cO y5 y4 _ _ e16) (cwst 2 ht wd_297 wd_4 wd_295 wd_296 (by decide +kernel) rfl rfl ⟨Nat.le_of_ble_eq_true rfl, Nat.le_of_ble_eq_true rfl⟩) hK hP hD hS hA hN [] [0, 1, 2, 3, 4, 5, 6, 7, 8] [0, 1, 2, 3, 4, 5, 6, 7, 8] (by decide) rfl rfl (by decide) (by decide) rfl (by decide) rfl hl.1 rfl (Nat.le_of_ble_eq_true rfl) dX3_spread_83 ⟨Nat.le_of_ble_eq_true rfl, Nat.le_of_ble_eq_true rfl⟩ (fun H locs hP hD hS => ?_)
            refine lv_iload hx hb dX3_spread_86 (lv_at hl 1 rfl) ?_
            refine lv_bipush (v := (16 : Int32)) hx hb dX3_spread_88 (by decide) ?_
            refine lv_imul hx hb dX3_spread_90 ?_
            refine lv_iload hx hb dX3_spread_91 (lv_at hl 7 rfl) ?_
            refine lv_iadd hx hb dX3_spread_93 ?_
            refine lv_iload hx hb dX3_spread_94 (lv_at hl 0 rfl) ?_
            refine lv_iadd hx hb dX3_spread_96 ?_
            obtain ⟨S17, e18, h⟩ := b1_ok h
            refine cl_Vv (ws' := (wX3 f n cI cC cO S17 N)) ⟨hx, hb, hml, hown, ht⟩ (c_X3_tryWay l D cI cC cO f n S N y1 u15 (((u9 * (16 : Int32)) + y4) + u11) _ _ e18) (cwv 3 ht wd_327 wd_4 wd_324 wd_326 ws_6 (by decide +kernel) rfl rfl ⟨Nat.le_of_ble_eq_true rfl, Nat.le_of_ble_eq_true rfl⟩) 3 0 rfl rfl rfl hK hP hD hS hA hN [0, 1, 2, 3, 4, 5, 6, 7, 8] [] [0, 1, 2, 3, 4, 5, 6, 7, 8] (by decide) rfl rfl (by decide) (by decide) rfl (by decide) rfl hl.1 rfl (Nat.le_of_ble_eq_true rfl) dX3_spread_97 ⟨Nat.le_of_ble_eq_true rfl, Nat.le_of_ble_eq_true rfl⟩ (fun H locs hP hD hS => ?_)
            refine lv_goto (tgt := 146) hx hb dX3_spread_100 (by decide) ?_
            refine lv_iinc (v := (y5 + 1)) (lv' := [(5, .int (y5 + 1)), (8, .int u11), (7, .int u9), (6, .int u7), (0, .ref (f 0)), (1, .int y1), (2, .int y2), (3, .int y3), (4, .int y4)]) hx hb dX3_spread_146 hl (k := 8) rfl rfl (by decide) rfl (fun ls hl => ?_)
            refine lv_goto (tgt := 14) hx hb dX3_spread_149 (by decide) ?_
            exact ih14 S17 y1 y2 y3 y4 (y5 + 1) _ _ ls h hP hD hS (lv_sub hl [4, 5, 6, 7, 8, 0] rfl)
  unfold F_X3_spread at h
  refine lv_iload_n hx hb dX3_spread_0 rfl (lv_at hl 1 rfl) ?_
  refine lv_bipush (v := (16 : Int32)) hx hb dX3_spread_1 (by decide) ?_
  refine lv_idiv hx hb dX3_spread_3 (by decide) ?_
  refine lv_istore_n (lv' := [(3, .int (x1 / (16 : Int32))), (0, .ref (f 0)), (1, .int x1), (2, .int x2)]) hx hb dX3_spread_4 rfl hl (by decide) rfl (fun ls hl => ?_)
  refine lv_iload_n hx hb dX3_spread_5 rfl (lv_at hl 2 rfl) ?_
  refine lv_bipush (v := (16 : Int32)) hx hb dX3_spread_6 (by decide) ?_
  refine lv_irem hx hb dX3_spread_8 (by decide) ?_
  refine lv_istore (lv' := [(4, .int (x1 - x1 / (16 : Int32) * (16 : Int32))), (3, .int (x1 / (16 : Int32))), (0, .ref (f 0)), (1, .int x1), (2, .int x2)]) hx hb dX3_spread_9 hl (by decide) rfl (fun ls hl => ?_)
  refine lv_iconst (v := (0 : Int32)) hx hb dX3_spread_11 (by decide) ?_
  refine lv_istore (lv' := [(5, .int (0 : Int32)), (4, .int (x1 - x1 / (16 : Int32) * (16 : Int32))), (3, .int (x1 / (16 : Int32))), (0, .ref (f 0)), (1, .int x1), (2, .int x2)]) hx hb dX3_spread_12 hl (by decide) rfl (fun ls hl => ?_)
  exact w14 FU S x1 x2 (x1 / (16 : Int32)) (x1 - x1 / (16 : Int32) * (16 : Int32)) (0 : Int32) _ _ ls h hP hD hS (lv_sub hl [3, 4, 5, 2, 1, 0] rfl)
theorem dX3_search_0 : decode cX3_search 0 = .ok (.aload_n 0, 1) := by decide +kernel
theorem dX3_search_1 : decode cX3_search 1 = .ok (.getfield 22, 3) := by decide +kernel
theorem dX3_search_4 : decode cX3_search 4 = .ok (.iconst (-1), 1) := by decide +kernel
theorem dX3_search_5 : decode cX3_search 5 = .ok (.invokestatic 57, 3) := by decide +kernel
theorem dX3_search_8 : decode cX3_search 8 = .ok (.aload_n 0, 1) := by decide +kernel
theorem dX3_search_9 : decode cX3_search 9 = .ok (.iconst 0, 1) := by decide +kernel
theorem dX3_search_10 : decode cX3_search 10 = .ok (.putfield 31, 3) := by decide +kernel
theorem dX3_search_13 : decode cX3_search 13 = .ok (.aload_n 0, 1) := by decide +kernel
theorem dX3_search_14 : decode cX3_search 14 = .ok (.iconst (-1), 1) := by decide +kernel
theorem dX3_search_15 : decode cX3_search 15 = .ok (.putfield 35, 3) := by decide +kernel
theorem dX3_search_18 : decode cX3_search 18 = .ok (.iconst 1, 1) := by decide +kernel
theorem dX3_search_19 : decode cX3_search 19 = .ok (.istore_n 2, 1) := by decide +kernel
theorem dX3_search_20 : decode cX3_search 20 = .ok (.iload_n 2, 1) := by decide +kernel
theorem dX3_search_21 : decode cX3_search 21 = .ok (.aload_n 0, 1) := by decide +kernel
theorem dX3_search_22 : decode cX3_search 22 = .ok (.getfield 14, 3) := by decide +kernel
theorem dX3_search_25 : decode cX3_search 25 = .ok (.getfield 103, 3) := by decide +kernel
theorem dX3_search_28 : decode cX3_search 28 = .ok (.if_icmp .ge 22, 3) := by decide +kernel
theorem dX3_search_31 : decode cX3_search 31 = .ok (.aload_n 0, 1) := by decide +kernel
theorem dX3_search_32 : decode cX3_search 32 = .ok (.iconst (-1), 1) := by decide +kernel
theorem dX3_search_33 : decode cX3_search 33 = .ok (.iload_n 2, 1) := by decide +kernel
theorem dX3_search_34 : decode cX3_search 34 = .ok (.invokestatic 106, 3) := by decide +kernel
theorem dX3_search_37 : decode cX3_search 37 = .ok (.iload_n 2, 1) := by decide +kernel
theorem dX3_search_38 : decode cX3_search 38 = .ok (.bipush 16, 2) := by decide +kernel
theorem dX3_search_40 : decode cX3_search 40 = .ok (.imul, 1) := by decide +kernel
theorem dX3_search_41 : decode cX3_search 41 = .ok (.invokevirtual 120, 3) := by decide +kernel
theorem dX3_search_44 : decode cX3_search 44 = .ok (.iinc 2 1, 3) := by decide +kernel
theorem dX3_search_47 : decode cX3_search 47 = .ok (.goto (-27), 3) := by decide +kernel
theorem dX3_search_50 : decode cX3_search 50 = .ok (.iconst 0, 1) := by decide +kernel
theorem dX3_search_51 : decode cX3_search 51 = .ok (.istore_n 2, 1) := by decide +kernel
theorem dX3_search_52 : decode cX3_search 52 = .ok (.iload_n 2, 1) := by decide +kernel
theorem dX3_search_53 : decode cX3_search 53 = .ok (.bipush 96, 2) := by decide +kernel
theorem dX3_search_55 : decode cX3_search 55 = .ok (.if_icmp .ge 36, 3) := by decide +kernel
theorem dX3_search_58 : decode cX3_search 58 = .ok (.iload_n 2, 1) := by decide +kernel
theorem dX3_search_59 : decode cX3_search 59 = .ok (.aload_n 0, 1) := by decide +kernel
theorem dX3_search_60 : decode cX3_search 60 = .ok (.getfield 31, 3) := by decide +kernel
theorem dX3_search_63 : decode cX3_search 63 = .ok (.if_icmp .ge 28, 3) := by decide +kernel
theorem dX3_search_66 : decode cX3_search 66 = .ok (.aload_n 0, 1) := by decide +kernel
theorem dX3_search_67 : decode cX3_search 67 = .ok (.getfield 35, 3) := by decide +kernel
theorem dX3_search_70 : decode cX3_search 70 = .ok (.iconst (-1), 1) := by decide +kernel
theorem dX3_search_71 : decode cX3_search 71 = .ok (.if_icmp .ne 20, 3) := by decide +kernel
theorem dX3_search_74 : decode cX3_search 74 = .ok (.aload_n 0, 1) := by decide +kernel
theorem dX3_search_75 : decode cX3_search 75 = .ok (.aload_n 0, 1) := by decide +kernel
theorem dX3_search_76 : decode cX3_search 76 = .ok (.getfield 28, 3) := by decide +kernel
theorem dX3_search_79 : decode cX3_search 79 = .ok (.iload_n 2, 1) := by decide +kernel
theorem dX3_search_80 : decode cX3_search 80 = .ok (.iaload, 1) := by decide +kernel
theorem dX3_search_81 : decode cX3_search 81 = .ok (.iload_n 1, 1) := by decide +kernel
theorem dX3_search_82 : decode cX3_search 82 = .ok (.invokevirtual 123, 3) := by decide +kernel
theorem dX3_search_85 : decode cX3_search 85 = .ok (.iinc 2 1, 3) := by decide +kernel
theorem dX3_search_88 : decode cX3_search 88 = .ok (.goto (-36), 3) := by decide +kernel
theorem dX3_search_91 : decode cX3_search 91 = .ok (.return_, 1) := by decide +kernel
set_option maxHeartbeats 4000000 in
set_option maxRecDepth 100000 in
theorem c_X3_search (l : Launch) (D : va_G) (cI cC cO : ClassId) (f : Nat → Nat) (n : Nat → Nat) (S : Mm) (N : Mm) (x1 : Int32) (res : Mm) (sz : Nat) (h : F_X3_search S N x1 = some res) : Met l yX3_search (Cond.code yX3_search cX3_search 3 (Option.none : Option Jvm.ClassFile.FieldType) :: lw_g) ({ frames := 2, cells := 0, slots := 0, locals := 51 } : Room) (va_Pc [.ref (f 0), .int x1] (pS D cI cC cO sz (wX3 f n cI cC cO S N))) (QV D cI cC cO (va_A (wX3 f n cI cC cO S N) sz) (wX3 f n cI cC cO res N)) 0 0 (va_A (wX3 f n cI cC cO S N) sz) := by
  refine Met.ofW (cc := cX3_search) (maxL := 3) (ret := (Option.none : Option Jvm.ClassFile.FieldType)) (by decide) rfl ?_
  intro p e s m args below meth c s₁ B hml hv
  obtain ⟨rfl, rfl, hP, hK, hD0, hN⟩ := hv
  have hx := B.exec
  have hb := B.bytes
  have hr := B.returns
  have ht : ∀ w ∈ lw_g, w.before ([.ref (f 0), .int x1] : List Value).toArray s = true := fun w hw => atoms_spec (ws := Cond.code yX3_search cX3_search 3 (Option.none : Option Jvm.ClassFile.FieldType) :: lw_g) B.pre w (List.mem_cons_of_mem _ hw)
  have hown : s.vm.findClass RX3 = some m.cls := findClass_of_methodNamed B.named
  have hlocks := B.notSynchronized
  have hD := hD0.self (sz := s.heap.size)
  generalize hAe : va_A (wX3 f n cI cC cO S N) s.heap.size = A at hD ⊢
  have hA : ∀ q : Nat, s.heap.size ≤ q → A q := fun q hq => by rw [← hAe]; exact Or.inr hq
  have hS : va_S A s.heap s.heap [] := va_S.rf
  have hl := lv_entry ([.ref (f 0), .int x1]) (n := 3) (Nat.le_of_ble_eq_true rfl)
  rw [lg_entry_eq]
  generalize (lg_sl ([.ref (f 0), .int x1]) ++ List.replicate (3 - (lg_sl ([.ref (f 0), .int x1])).length) Slot.unset).toArray = ls at hl ⊢
  have hl : lv_has ls 3 [(0, .ref (f 0)), (1, .int x1)] := hl
  have w52 : ∀ (n52 : Nat) (S : Mm) (y1 y2 : Int32) (H : Heap) (locs : List Loc) (ls : Array Slot), F_X3_search_52 n52 S N y1 y2 = some res → va_P D classes (wX3 f n cI cC cO S N) H → va_D A (wX3 f n cI cC cO S N) → va_S A s.heap H locs → lv_has ls 3 [(0, .ref (f 0)), (1, .int y1), (2, .int y2)] → W p l e ({ frames := 2, cells := 0, slots := 0, locals := 51 } : Room) s m ([.ref (f 0), .int x1] : List Value).toArray below meth c H locs 0 0 (MQ below (QV D cI cC cO A (wX3 f n cI cC cO res N)) ([.ref (f 0), .int x1] : List Value).toArray s 0 0 A) (F0 m 52 ls []) := by
    intro n52
    induction n52 with
    | zero => intro S y1 y2 H locs ls h hP hD hS hl; exact absurd (show (none : Option (Mm)) = some res from h) (by simp)
    | succ n52 ih52 =>
      intro S y1 y2 H locs ls h hP hD hS hl
      have h : F_X3_searchB_52 (F_X3_search_52 n52) S N y1 y2 = some res := h
      unfold F_X3_searchB_52 at h
      refine lv_iload_n hx hb dX3_search_52 rfl (lv_at hl 2 rfl) ?_
      refine lv_bipush (v := (96 : Int32)) hx hb dX3_search_53 (by decide) ?_
      refine lv_icmp_ge (tgt := 91) hx hb dX3_search_55 (by decide) (fun c1 => ?_) (fun c1 => ?_)
      · replace h := fp c1 h
        cases h
        exact rt_v hx hb hr hlocks hS hP hK hD dX3_search_91
      · replace h := fn c1 h
        refine lv_iload_n hx hb dX3_search_58 rfl (lv_at hl 2 rfl) ?_
        refine lv_aload_n hx hb dX3_search_59 rfl (lv_at hl 0 rfl) ?_
        refine va_get (D := D) (ci := 3) (v := .int (S 4 0)) (C := RX3) (T := TX3) (N := 7) hx hb ht i_X3 hown hK hP 0 rfl rfl 5 (by decide) (ht _ wd_80) (fun _ h9 => h9) rfl dX3_search_60 ?_
        refine lv_icmp_ge (tgt := 91) hx hb dX3_search_63 (by decide) (fun c2 => ?_) (fun c2 => ?_)
        · replace h := fp c2 h
          cases h
          exact rt_v hx hb hr hlocks hS hP hK hD dX3_search_91
        · replace h := fn c2 h
          refine lv_aload_n hx hb dX3_search_66 rfl (lv_at hl 0 rfl) ?_
          refine va_get (D := D) (ci := 3) (v := .int (S 4 1)) (C := RX3) (T := TX3) (N := 7) hx hb ht i_X3 hown hK hP 0 rfl rfl 6 (by decide) (ht _ wd_81) (fun _ h9 => h9) rfl dX3_search_67 ?_
          refine lv_iconst (v := (-1 : Int32)) hx hb dX3_search_70 (by decide) ?_
          refine lv_icmp_ne (tgt := 91) hx hb dX3_search_71 (by decide) (fun c3 => ?_) (fun c3 => ?_)
          · replace h := fn c3 h
            cases h
            exact rt_v hx hb hr hlocks hS hP hK hD dX3_search_91
          · replace h := fp c3 h
            refine lv_aload_n hx hb dX3_search_74 rfl (lv_at hl 0 rfl) ?_
            refine lv_aload_n hx hb dX3_search_75 rfl (lv_at hl 0 rfl) ?_
            refine va_get (D := D) (ci := 3) (v := .ref (f 4)) (C := RX3) (T := TX3) (N := 7) hx hb ht i_X3 hown hK hP 0 rfl rfl 4 (by decide) (ht _ wd_79) (fun _ h9 => h9) rfl dX3_search_76 ?_
            refine lv_iload_n hx hb dX3_search_79 rfl (lv_at hl 2 rfl) ?_
            obtain ⟨i4, h⟩ := ck_ok h
            refine va_iald hx hb hK hP 4 0 rfl rfl i4 dX3_search_80 ?_
            refine lv_iload_n hx hb dX3_search_81 rfl (lv_at hl 1 rfl) ?_
            obtain ⟨S5, e6, h⟩ := b1_ok h
            refine cl_Vv (ws' := (wX3 f n cI cC cO S5 N)) ⟨hx, hb, hml, hown, ht⟩ (c_X3_spread l D cI cC cO f n S N (S 3 y2.toNatClampNeg) y1 _ _ e6) (cwv 2 ht wd_331 wd_4 wd_328 wd_330 ws_7 (by decide +kernel) rfl rfl ⟨Nat.le_of_ble_eq_true rfl, Nat.le_of_ble_eq_true rfl⟩) 3 0 rfl rfl rfl hK hP hD hS hA hN [0, 1, 2, 3, 4, 5, 6, 7, 8] [] [0, 1, 2, 3, 4, 5, 6, 7, 8] (by decide) rfl rfl (by decide) (by decide) rfl (by decide) rfl hl.1 rfl (Nat.le_of_ble_eq_true rfl) dX3_search_82 ⟨Nat.le_of_ble_eq_true rfl, Nat.le_of_ble_eq_true rfl⟩ (fun H locs hP hD hS => ?_)
            refine lv_iinc (v := (y2 + 1)) (lv' := [(2, .int (y2 + 1)), (0, .ref (f 0)), (1, .int y1)]) hx hb dX3_search_85 hl (k := 2) rfl rfl (by decide) rfl (fun ls hl => ?_)
            refine lv_goto (tgt := 52) hx hb dX3_search_88 (by decide) ?_
            exact ih52 S5 y1 (y2 + 1) _ _ ls h hP hD hS (lv_sub hl [1, 2, 0] rfl)
  have w20 : ∀ (n20 : Nat) (S : Mm) (y1 y2 : Int32) (H : Heap) (locs : List Loc) (ls : Array Slot), F_X3_search_20 n20 S N y1 y2 = some res → va_P D classes (wX3 f n cI cC cO S N) H → va_D A (wX3 f n cI cC cO S N) → va_S A s.heap H locs → lv_has ls 3 [(0, .ref (f 0)), (1, .int y1), (2, .int y2)] → W p l e ({ frames := 2, cells := 0, slots := 0, locals := 51 } : Room) s m ([.ref (f 0), .int x1] : List Value).toArray below meth c H locs 0 0 (MQ below (QV D cI cC cO A (wX3 f n cI cC cO res N)) ([.ref (f 0), .int x1] : List Value).toArray s 0 0 A) (F0 m 20 ls []) := by
    intro n20
    induction n20 with
    | zero => intro S y1 y2 H locs ls h hP hD hS hl; exact absurd (show (none : Option (Mm)) = some res from h) (by simp)
    | succ n20 ih20 =>
      intro S y1 y2 H locs ls h hP hD hS hl
      have h : F_X3_searchB_20 (F_X3_search_20 n20) S N y1 y2 = some res := h
      unfold F_X3_searchB_20 at h
      refine lv_iload_n hx hb dX3_search_20 rfl (lv_at hl 2 rfl) ?_
      refine lv_aload_n hx hb dX3_search_21 rfl (lv_at hl 0 rfl) ?_
      refine va_get (D := D) (ci := 3) (v := .ref (n 0)) (C := RX3) (T := TX3) (N := 7) hx hb ht i_X3 hown hK hP 0 rfl rfl 0 (by decide) (ht _ wd_75) (fun _ h9 => h9) rfl dX3_search_22 ?_
      refine va_getN (D := D) (ci := 1) (v := .int (N 3 0)) (C := RX1) (T := TX1) (N := 5) hx hb ht i_X1 hown hK hP 5 rfl rfl 3 (by decide) (va_Nw.use rfl (hN.1 _ _ _ _ _ _ wd_34)) (fun _ h9 => h9) rfl dX3_search_25 ?_
      refine lv_icmp_ge (tgt := 50) hx hb dX3_search_28 (by decide) (fun c1 => ?_) (fun c1 => ?_)
      · replace h := fp c1 h
        refine lv_iconst (v := (0 : Int32)) hx hb dX3_search_50 (by decide) ?_
        refine lv_istore_n (lv' := [(2, .int (0 : Int32)), (0, .ref (f 0)), (1, .int y1)]) hx hb dX3_search_51 rfl hl (by decide) rfl (fun ls hl => ?_)
        exact w52 FU S y1 (0 : Int32) _ _ ls h hP hD hS (lv_sub hl [1, 2, 0] rfl)
      · replace h := fn c1 h
        refine lv_aload_n hx hb dX3_search_31 rfl (lv_at hl 0 rfl) ?_
        refine lv_iconst (v := (-1 : Int32)) hx hb dX3_search_32 (by decide) ?_
        refine lv_iload_n hx hb dX3_search_33 rfl (lv_at hl 2 rfl) ?_
        obtain ⟨u2, e3, h⟩ := b1_ok h
        refine cl_Si (ws' := (wX3 f n cI cC cO S N)) ⟨hx, hb, hml, hown, ht⟩ (c_X3_settingOut l D cI cC cO y2 _ _ e3) (cwst 1 ht wd_311 wd_4 wd_309 wd_310 (by decide +kernel) rfl rfl ⟨Nat.le_of_ble_eq_true rfl, Nat.le_of_ble_eq_true rfl⟩) hK hP hD hS hA hN [] [0, 1, 2, 3, 4, 5, 6, 7, 8] [0, 1, 2, 3, 4, 5, 6, 7, 8] (by decide) rfl rfl (by decide) (by decide) rfl (by decide) rfl hl.1 rfl (Nat.le_of_ble_eq_true rfl) dX3_search_34 ⟨Nat.le_of_ble_eq_true rfl, Nat.le_of_ble_eq_true rfl⟩ (fun H locs hP hD hS => ?_)
        refine lv_iload_n hx hb dX3_search_37 rfl (lv_at hl 2 rfl) ?_
        refine lv_bipush (v := (16 : Int32)) hx hb dX3_search_38 (by decide) ?_
        refine lv_imul hx hb dX3_search_40 ?_
        obtain ⟨S4, e5, h⟩ := b1_ok h
        refine cl_Vv (ws' := (wX3 f n cI cC cO S4 N)) ⟨hx, hb, hml, hown, ht⟩ (c_X3_tryWay l D cI cC cO f n S N (-1 : Int32) u2 (y2 * (16 : Int32)) _ _ e5) (cwv 3 ht wd_327 wd_4 wd_324 wd_326 ws_6 (by decide +kernel) rfl rfl ⟨Nat.le_of_ble_eq_true rfl, Nat.le_of_ble_eq_true rfl⟩) 3 0 rfl rfl rfl hK hP hD hS hA hN [0, 1, 2, 3, 4, 5, 6, 7, 8] [] [0, 1, 2, 3, 4, 5, 6, 7, 8] (by decide) rfl rfl (by decide) (by decide) rfl (by decide) rfl hl.1 rfl (Nat.le_of_ble_eq_true rfl) dX3_search_41 ⟨Nat.le_of_ble_eq_true rfl, Nat.le_of_ble_eq_true rfl⟩ (fun H locs hP hD hS => ?_)
        refine lv_iinc (v := (y2 + 1)) (lv' := [(2, .int (y2 + 1)), (0, .ref (f 0)), (1, .int y1)]) hx hb dX3_search_44 hl (k := 2) rfl rfl (by decide) rfl (fun ls hl => ?_)
        refine lv_goto (tgt := 20) hx hb dX3_search_47 (by decide) ?_
        exact ih20 S4 y1 (y2 + 1) _ _ ls h hP hD hS (lv_sub hl [1, 2, 0] rfl)
  unfold F_X3_search at h
  refine lv_aload_n hx hb dX3_search_0 rfl (lv_at hl 0 rfl) ?_
  refine va_get (D := D) (ci := 3) (v := .ref (f 2)) (C := RX3) (T := TX3) (N := 7) hx hb ht i_X3 hown hK hP 0 rfl rfl 2 (by decide) (ht _ wd_77) (fun _ h9 => h9) rfl dX3_search_1 ?_
  refine lv_iconst (v := (-1 : Int32)) hx hb dX3_search_4 (by decide) ?_
  refine cl_Sv (ws' := (wX3 f n cI cC cO (va_up S 1 (fl (S 1) 96 (-1 : Int32))) N)) ⟨hx, hb, hml, hown, ht⟩ (c_J7_fill l D cI cC cO (f 2) 96 (S 1) (-1 : Int32) _ (by decide)) (cwst 2 ht wd_286 wd_9 wd_284 wd_285 (by decide +kernel) rfl rfl ⟨Nat.le_of_ble_eq_true rfl, Nat.le_of_ble_eq_true rfl⟩) hK hP hD hS hA hN [2] [0, 1, 3, 4, 5, 6, 7, 8] [0, 1, 8, 2, 3, 4, 5, 6, 7] (by decide) rfl rfl (by decide) (by decide) rfl (by decide) rfl hl.1 rfl (Nat.le_of_ble_eq_true rfl) dX3_search_5 ⟨Nat.le_of_ble_eq_true rfl, Nat.le_of_ble_eq_true rfl⟩ (fun H locs hP hD hS => ?_)
  obtain ⟨S1, e2, h⟩ := sv_ok h
  have hP : va_P D classes (wX3 f n cI cC cO S1 N) H := by rw [← e2]; exact hP
  have hD : va_D A (wX3 f n cI cC cO S1 N) := by rw [← e2]; exact hD
  refine lv_aload_n hx hb dX3_search_8 rfl (lv_at hl 0 rfl) ?_
  refine lv_iconst (v := (0 : Int32)) hx hb dX3_search_9 (by decide) ?_
  refine va_put (D := D) (ci := 3) (v := .int (0 : Int32)) (ty := .int) (C := RX3) (T := TX3) (N := 7) hx hb ht i_X3 tyX3 tyX3_ok nmX3 hown hK hP hD hS 0 rfl rfl 5 (by decide) (ht _ wd_80) (fun _ h9 => h9) rfl (by decide +kernel) rfl rfl (Nat.le_of_ble_eq_true rfl) dX3_search_10 (fun H locs hP hD hS => ?_)
  obtain ⟨S3, e4, h⟩ := sv_ok h
  have hP : va_P D classes (wX3 f n cI cC cO S3 N) H := by rw [← e4]; exact hP
  have hD : va_D A (wX3 f n cI cC cO S3 N) := by rw [← e4]; exact hD
  refine lv_aload_n hx hb dX3_search_13 rfl (lv_at hl 0 rfl) ?_
  refine lv_iconst (v := (-1 : Int32)) hx hb dX3_search_14 (by decide) ?_
  refine va_put (D := D) (ci := 3) (v := .int (-1 : Int32)) (ty := .int) (C := RX3) (T := TX3) (N := 7) hx hb ht i_X3 tyX3 tyX3_ok nmX3 hown hK hP hD hS 0 rfl rfl 6 (by decide) (ht _ wd_81) (fun _ h9 => h9) rfl (by decide +kernel) rfl rfl (Nat.le_of_ble_eq_true rfl) dX3_search_15 (fun H locs hP hD hS => ?_)
  obtain ⟨S5, e6, h⟩ := sv_ok h
  have hP : va_P D classes (wX3 f n cI cC cO S5 N) H := by rw [← e6]; exact hP
  have hD : va_D A (wX3 f n cI cC cO S5 N) := by rw [← e6]; exact hD
  refine lv_iconst (v := (1 : Int32)) hx hb dX3_search_18 (by decide) ?_
  refine lv_istore_n (lv' := [(2, .int (1 : Int32)), (0, .ref (f 0)), (1, .int x1)]) hx hb dX3_search_19 rfl hl (by decide) rfl (fun ls hl => ?_)
  exact w20 FU S5 x1 (1 : Int32) _ _ ls h hP hD hS (lv_sub hl [1, 2, 0] rfl)
theorem dX3_carryToArrival_0 : decode cX3_carryToArrival 0 = .ok (.ldc 66, 2) := by decide +kernel
theorem dX3_carryToArrival_2 : decode cX3_carryToArrival 2 = .ok (.istore_n 1, 1) := by decide +kernel
theorem dX3_carryToArrival_3 : decode cX3_carryToArrival 3 = .ok (.aload_n 0, 1) := by decide +kernel
theorem dX3_carryToArrival_4 : decode cX3_carryToArrival 4 = .ok (.getfield 35, 3) := by decide +kernel
theorem dX3_carryToArrival_7 : decode cX3_carryToArrival 7 = .ok (.istore_n 2, 1) := by decide +kernel
theorem dX3_carryToArrival_8 : decode cX3_carryToArrival 8 = .ok (.iconst 0, 1) := by decide +kernel
theorem dX3_carryToArrival_9 : decode cX3_carryToArrival 9 = .ok (.istore_n 3, 1) := by decide +kernel
theorem dX3_carryToArrival_10 : decode cX3_carryToArrival 10 = .ok (.iload_n 3, 1) := by decide +kernel
theorem dX3_carryToArrival_11 : decode cX3_carryToArrival 11 = .ok (.bipush 96, 2) := by decide +kernel
theorem dX3_carryToArrival_13 : decode cX3_carryToArrival 13 = .ok (.if_icmp .ge 37, 3) := by decide +kernel
theorem dX3_carryToArrival_16 : decode cX3_carryToArrival 16 = .ok (.iload_n 2, 1) := by decide +kernel
theorem dX3_carryToArrival_17 : decode cX3_carryToArrival 17 = .ok (.iconst (-1), 1) := by decide +kernel
theorem dX3_carryToArrival_18 : decode cX3_carryToArrival 18 = .ok (.if_icmp .eq 32, 3) := by decide +kernel
theorem dX3_carryToArrival_21 : decode cX3_carryToArrival 21 = .ok (.iload_n 1, 1) := by decide +kernel
theorem dX3_carryToArrival_22 : decode cX3_carryToArrival 22 = .ok (.aload_n 0, 1) := by decide +kernel
theorem dX3_carryToArrival_23 : decode cX3_carryToArrival 23 = .ok (.getfield 18, 3) := by decide +kernel
theorem dX3_carryToArrival_26 : decode cX3_carryToArrival 26 = .ok (.aload_n 0, 1) := by decide +kernel
theorem dX3_carryToArrival_27 : decode cX3_carryToArrival 27 = .ok (.getfield 22, 3) := by decide +kernel
theorem dX3_carryToArrival_30 : decode cX3_carryToArrival 30 = .ok (.iload_n 2, 1) := by decide +kernel
theorem dX3_carryToArrival_31 : decode cX3_carryToArrival 31 = .ok (.iaload, 1) := by decide +kernel
theorem dX3_carryToArrival_32 : decode cX3_carryToArrival 32 = .ok (.iaload, 1) := by decide +kernel
theorem dX3_carryToArrival_33 : decode cX3_carryToArrival 33 = .ok (.invokestatic 126, 3) := by decide +kernel
theorem dX3_carryToArrival_36 : decode cX3_carryToArrival 36 = .ok (.istore_n 1, 1) := by decide +kernel
theorem dX3_carryToArrival_37 : decode cX3_carryToArrival 37 = .ok (.aload_n 0, 1) := by decide +kernel
theorem dX3_carryToArrival_38 : decode cX3_carryToArrival 38 = .ok (.getfield 25, 3) := by decide +kernel
theorem dX3_carryToArrival_41 : decode cX3_carryToArrival 41 = .ok (.iload_n 2, 1) := by decide +kernel
theorem dX3_carryToArrival_42 : decode cX3_carryToArrival 42 = .ok (.iaload, 1) := by decide +kernel
theorem dX3_carryToArrival_43 : decode cX3_carryToArrival 43 = .ok (.istore_n 2, 1) := by decide +kernel
theorem dX3_carryToArrival_44 : decode cX3_carryToArrival 44 = .ok (.iinc 3 1, 3) := by decide +kernel
theorem dX3_carryToArrival_47 : decode cX3_carryToArrival 47 = .ok (.goto (-37), 3) := by decide +kernel
theorem dX3_carryToArrival_50 : decode cX3_carryToArrival 50 = .ok (.aload_n 0, 1) := by decide +kernel
theorem dX3_carryToArrival_51 : decode cX3_carryToArrival 51 = .ok (.getfield 35, 3) := by decide +kernel
theorem dX3_carryToArrival_54 : decode cX3_carryToArrival 54 = .ok (.istore_n 2, 1) := by decide +kernel
theorem dX3_carryToArrival_55 : decode cX3_carryToArrival 55 = .ok (.iconst 0, 1) := by decide +kernel
theorem dX3_carryToArrival_56 : decode cX3_carryToArrival 56 = .ok (.istore_n 3, 1) := by decide +kernel
theorem dX3_carryToArrival_57 : decode cX3_carryToArrival 57 = .ok (.iload_n 3, 1) := by decide +kernel
theorem dX3_carryToArrival_58 : decode cX3_carryToArrival 58 = .ok (.bipush 96, 2) := by decide +kernel
theorem dX3_carryToArrival_60 : decode cX3_carryToArrival 60 = .ok (.if_icmp .ge 54, 3) := by decide +kernel
theorem dX3_carryToArrival_63 : decode cX3_carryToArrival 63 = .ok (.iload_n 2, 1) := by decide +kernel
theorem dX3_carryToArrival_64 : decode cX3_carryToArrival 64 = .ok (.iconst (-1), 1) := by decide +kernel
theorem dX3_carryToArrival_65 : decode cX3_carryToArrival 65 = .ok (.if_icmp .eq 49, 3) := by decide +kernel
theorem dX3_carryToArrival_68 : decode cX3_carryToArrival 68 = .ok (.aload_n 0, 1) := by decide +kernel
theorem dX3_carryToArrival_69 : decode cX3_carryToArrival 69 = .ok (.getfield 22, 3) := by decide +kernel
theorem dX3_carryToArrival_72 : decode cX3_carryToArrival 72 = .ok (.iload_n 2, 1) := by decide +kernel
theorem dX3_carryToArrival_73 : decode cX3_carryToArrival 73 = .ok (.iaload, 1) := by decide +kernel
theorem dX3_carryToArrival_74 : decode cX3_carryToArrival 74 = .ok (.istore 4, 2) := by decide +kernel
theorem dX3_carryToArrival_76 : decode cX3_carryToArrival 76 = .ok (.aload_n 0, 1) := by decide +kernel
theorem dX3_carryToArrival_77 : decode cX3_carryToArrival 77 = .ok (.getfield 18, 3) := by decide +kernel
theorem dX3_carryToArrival_80 : decode cX3_carryToArrival 80 = .ok (.iload 4, 2) := by decide +kernel
theorem dX3_carryToArrival_82 : decode cX3_carryToArrival 82 = .ok (.dup2, 1) := by decide +kernel
theorem dX3_carryToArrival_83 : decode cX3_carryToArrival 83 = .ok (.iaload, 1) := by decide +kernel
theorem dX3_carryToArrival_84 : decode cX3_carryToArrival 84 = .ok (.iload_n 1, 1) := by decide +kernel
theorem dX3_carryToArrival_85 : decode cX3_carryToArrival 85 = .ok (.isub, 1) := by decide +kernel
theorem dX3_carryToArrival_86 : decode cX3_carryToArrival 86 = .ok (.iastore, 1) := by decide +kernel
theorem dX3_carryToArrival_87 : decode cX3_carryToArrival 87 = .ok (.aload_n 0, 1) := by decide +kernel
theorem dX3_carryToArrival_88 : decode cX3_carryToArrival 88 = .ok (.getfield 18, 3) := by decide +kernel
theorem dX3_carryToArrival_91 : decode cX3_carryToArrival 91 = .ok (.iload 4, 2) := by decide +kernel
theorem dX3_carryToArrival_93 : decode cX3_carryToArrival 93 = .ok (.invokestatic 79, 3) := by decide +kernel
theorem dX3_carryToArrival_96 : decode cX3_carryToArrival 96 = .ok (.dup2, 1) := by decide +kernel
theorem dX3_carryToArrival_97 : decode cX3_carryToArrival 97 = .ok (.iaload, 1) := by decide +kernel
theorem dX3_carryToArrival_98 : decode cX3_carryToArrival 98 = .ok (.iload_n 1, 1) := by decide +kernel
theorem dX3_carryToArrival_99 : decode cX3_carryToArrival 99 = .ok (.iadd, 1) := by decide +kernel
theorem dX3_carryToArrival_100 : decode cX3_carryToArrival 100 = .ok (.iastore, 1) := by decide +kernel
theorem dX3_carryToArrival_101 : decode cX3_carryToArrival 101 = .ok (.aload_n 0, 1) := by decide +kernel
theorem dX3_carryToArrival_102 : decode cX3_carryToArrival 102 = .ok (.getfield 25, 3) := by decide +kernel
theorem dX3_carryToArrival_105 : decode cX3_carryToArrival 105 = .ok (.iload_n 2, 1) := by decide +kernel
theorem dX3_carryToArrival_106 : decode cX3_carryToArrival 106 = .ok (.iaload, 1) := by decide +kernel
theorem dX3_carryToArrival_107 : decode cX3_carryToArrival 107 = .ok (.istore_n 2, 1) := by decide +kernel
theorem dX3_carryToArrival_108 : decode cX3_carryToArrival 108 = .ok (.iinc 3 1, 3) := by decide +kernel
theorem dX3_carryToArrival_111 : decode cX3_carryToArrival 111 = .ok (.goto (-54), 3) := by decide +kernel
theorem dX3_carryToArrival_114 : decode cX3_carryToArrival 114 = .ok (.iload_n 1, 1) := by decide +kernel
theorem dX3_carryToArrival_115 : decode cX3_carryToArrival 115 = .ok (.ireturn, 1) := by decide +kernel
set_option maxHeartbeats 4000000 in
set_option maxRecDepth 100000 in
theorem c_X3_carryToArrival (l : Launch) (D : va_G) (cI cC cO : ClassId) (f : Nat → Nat) (n : Nat → Nat) (S : Mm) (N : Mm) (res : Int32 × Mm) (sz : Nat) (h : F_X3_carryToArrival S N = some res) : Met l yX3_carryToArrival (Cond.code yX3_carryToArrival cX3_carryToArrival 5 (Option.some Jvm.ClassFile.FieldType.int) :: lw_g) ({ frames := 1, cells := 0, slots := 0, locals := 21 } : Room) (va_Pc [.ref (f 0)] (pS D cI cC cO sz (wX3 f n cI cC cO S N))) (QI D cI cC cO (va_A (wX3 f n cI cC cO S N) sz) (wX3 f n cI cC cO res.2 N) res.1) 0 0 (va_A (wX3 f n cI cC cO S N) sz) := by
  refine Met.ofW (cc := cX3_carryToArrival) (maxL := 5) (ret := (Option.some Jvm.ClassFile.FieldType.int)) (by decide) rfl ?_
  intro p e s m args below meth c s₁ B hml hv
  obtain ⟨rfl, rfl, hP, hK, hD0, hN⟩ := hv
  have hx := B.exec
  have hb := B.bytes
  have hr := B.returns
  have ht : ∀ w ∈ lw_g, w.before ([.ref (f 0)] : List Value).toArray s = true := fun w hw => atoms_spec (ws := Cond.code yX3_carryToArrival cX3_carryToArrival 5 (Option.some Jvm.ClassFile.FieldType.int) :: lw_g) B.pre w (List.mem_cons_of_mem _ hw)
  have hown : s.vm.findClass RX3 = some m.cls := findClass_of_methodNamed B.named
  have hlocks := B.notSynchronized
  have hD := hD0.self (sz := s.heap.size)
  generalize hAe : va_A (wX3 f n cI cC cO S N) s.heap.size = A at hD ⊢
  have hA : ∀ q : Nat, s.heap.size ≤ q → A q := fun q hq => by rw [← hAe]; exact Or.inr hq
  have hS : va_S A s.heap s.heap [] := va_S.rf
  have hl := lv_entry ([.ref (f 0)]) (n := 5) (Nat.le_of_ble_eq_true rfl)
  rw [lg_entry_eq]
  generalize (lg_sl ([.ref (f 0)]) ++ List.replicate (5 - (lg_sl ([.ref (f 0)])).length) Slot.unset).toArray = ls at hl ⊢
  have hl : lv_has ls 5 [(0, .ref (f 0))] := hl
  have w57 : ∀ (n57 : Nat) (S : Mm) (y1 y2 y3 : Int32) (H : Heap) (locs : List Loc) (ls : Array Slot), F_X3_carryToArrival_57 n57 S N y1 y2 y3 = some res → va_P D classes (wX3 f n cI cC cO S N) H → va_D A (wX3 f n cI cC cO S N) → va_S A s.heap H locs → lv_has ls 5 [(0, .ref (f 0)), (1, .int y1), (2, .int y2), (3, .int y3)] → W p l e ({ frames := 1, cells := 0, slots := 0, locals := 21 } : Room) s m ([.ref (f 0)] : List Value).toArray below meth c H locs 0 0 (MQ below (QI D cI cC cO A (wX3 f n cI cC cO res.2 N) res.1) ([.ref (f 0)] : List Value).toArray s 0 0 A) (F0 m 57 ls []) := by
    intro n57
    induction n57 with
    | zero => intro S y1 y2 y3 H locs ls h hP hD hS hl; exact absurd (show (none : Option (Int32 × Mm)) = some res from h) (by simp)
    | succ n57 ih57 =>
      intro S y1 y2 y3 H locs ls h hP hD hS hl
      have h : F_X3_carryToArrivalB_57 (F_X3_carryToArrival_57 n57) S N y1 y2 y3 = some res := h
      unfold F_X3_carryToArrivalB_57 at h
      refine lv_iload_n hx hb dX3_carryToArrival_57 rfl (lv_at hl 3 rfl) ?_
      refine lv_bipush (v := (96 : Int32)) hx hb dX3_carryToArrival_58 (by decide) ?_
      refine lv_icmp_ge (tgt := 114) hx hb dX3_carryToArrival_60 (by decide) (fun c1 => ?_) (fun c1 => ?_)
      · replace h := fp c1 h
        refine lv_iload_n hx hb dX3_carryToArrival_114 rfl (lv_at hl 1 rfl) ?_
        cases h
        exact rt_i hx hb hr hlocks hS hP hK hD dX3_carryToArrival_115
      · replace h := fn c1 h
        refine lv_iload_n hx hb dX3_carryToArrival_63 rfl (lv_at hl 2 rfl) ?_
        refine lv_iconst (v := (-1 : Int32)) hx hb dX3_carryToArrival_64 (by decide) ?_
        refine lv_icmp_eq (tgt := 114) hx hb dX3_carryToArrival_65 (by decide) (fun c2 => ?_) (fun c2 => ?_)
        · replace h := fp c2 h
          refine lv_iload_n hx hb dX3_carryToArrival_114 rfl (lv_at hl 1 rfl) ?_
          cases h
          exact rt_i hx hb hr hlocks hS hP hK hD dX3_carryToArrival_115
        · replace h := fn c2 h
          refine lv_aload_n hx hb dX3_carryToArrival_68 rfl (lv_at hl 0 rfl) ?_
          refine va_get (D := D) (ci := 3) (v := .ref (f 2)) (C := RX3) (T := TX3) (N := 7) hx hb ht i_X3 hown hK hP 0 rfl rfl 2 (by decide) (ht _ wd_77) (fun _ h9 => h9) rfl dX3_carryToArrival_69 ?_
          refine lv_iload_n hx hb dX3_carryToArrival_72 rfl (lv_at hl 2 rfl) ?_
          obtain ⟨i3, h⟩ := ck_ok h
          refine va_iald hx hb hK hP 2 0 rfl rfl i3 dX3_carryToArrival_73 ?_
          refine lv_istore (lv' := [(4, .int (S 1 y2.toNatClampNeg)), (0, .ref (f 0)), (1, .int y1), (2, .int y2), (3, .int y3)]) hx hb dX3_carryToArrival_74 hl (by decide) rfl (fun ls hl => ?_)
          refine lv_aload_n hx hb dX3_carryToArrival_76 rfl (lv_at hl 1 rfl) ?_
          refine va_get (D := D) (ci := 3) (v := .ref (f 1)) (C := RX3) (T := TX3) (N := 7) hx hb ht i_X3 hown hK hP 0 rfl rfl 1 (by decide) (ht _ wd_76) (fun _ h9 => h9) rfl dX3_carryToArrival_77 ?_
          refine lv_iload hx hb dX3_carryToArrival_80 (lv_at hl 0 rfl) ?_
          refine lv_dup2_11 hx hb dX3_carryToArrival_82 rfl rfl ?_
          obtain ⟨i4, h⟩ := ck_ok h
          refine va_iald hx hb hK hP 1 0 rfl rfl i4 dX3_carryToArrival_83 ?_
          refine lv_iload_n hx hb dX3_carryToArrival_84 rfl (lv_at hl 2 rfl) ?_
          refine lv_isub hx hb dX3_carryToArrival_85 ?_
          obtain ⟨i5, h⟩ := ck_ok h
          refine va_iast hx hb hK hP hD hS 1 0 rfl rfl i5 dX3_carryToArrival_86 (fun H locs hP hD hS => ?_)
          obtain ⟨S6, e7, h⟩ := sv_ok h
          have hP : va_P D classes (wX3 f n cI cC cO S6 N) H := by rw [← e7]; exact hP
          have hD : va_D A (wX3 f n cI cC cO S6 N) := by rw [← e7]; exact hD
          refine lv_aload_n hx hb dX3_carryToArrival_87 rfl (lv_at hl 1 rfl) ?_
          refine va_get (D := D) (ci := 3) (v := .ref (f 1)) (C := RX3) (T := TX3) (N := 7) hx hb ht i_X3 hown hK hP 0 rfl rfl 1 (by decide) (ht _ wd_76) (fun _ h9 => h9) rfl dX3_carryToArrival_88 ?_
          refine lv_iload hx hb dX3_carryToArrival_91 (lv_at hl 0 rfl) ?_
          obtain ⟨u8, e9, h⟩ := b1_ok h
          refine cl_Si (ws' := (wX3 f n cI cC cO S6 N)) ⟨hx, hb, hml, hown, ht⟩ (c_X3_back l D cI cC cO (S 1 y2.toNatClampNeg) _ _ e9) (cwst 1 ht wd_308 wd_4 wd_306 wd_307 (by decide +kernel) rfl rfl ⟨Nat.le_of_ble_eq_true rfl, Nat.le_of_ble_eq_true rfl⟩) hK hP hD hS hA hN [] [0, 1, 2, 3, 4, 5, 6, 7, 8] [0, 1, 2, 3, 4, 5, 6, 7, 8] (by decide) rfl rfl (by decide) (by decide) rfl (by decide) rfl hl.1 rfl (Nat.le_of_ble_eq_true rfl) dX3_carryToArrival_93 ⟨Nat.le_of_ble_eq_true rfl, Nat.le_of_ble_eq_true rfl⟩ (fun H locs hP hD hS => ?_)
          refine lv_dup2_11 hx hb dX3_carryToArrival_96 rfl rfl ?_
          obtain ⟨i10, h⟩ := ck_ok h
          refine va_iald hx hb hK hP 1 0 rfl rfl i10 dX3_carryToArrival_97 ?_
          refine lv_iload_n hx hb dX3_carryToArrival_98 rfl (lv_at hl 2 rfl) ?_
          refine lv_iadd hx hb dX3_carryToArrival_99 ?_
          obtain ⟨i11, h⟩ := ck_ok h
          refine va_iast hx hb hK hP hD hS 1 0 rfl rfl i11 dX3_carryToArrival_100 (fun H locs hP hD hS => ?_)
          obtain ⟨S12, e13, h⟩ := sv_ok h
          have hP : va_P D classes (wX3 f n cI cC cO S12 N) H := by rw [← e13]; exact hP
          have hD : va_D A (wX3 f n cI cC cO S12 N) := by rw [← e13]; exact hD
          refine lv_aload_n hx hb dX3_carryToArrival_101 rfl (lv_at hl 1 rfl) ?_
          refine va_get (D := D) (ci := 3) (v := .ref (f 3)) (C := RX3) (T := TX3) (N := 7) hx hb ht i_X3 hown hK hP 0 rfl rfl 3 (by decide) (ht _ wd_78) (fun _ h9 => h9) rfl dX3_carryToArrival_102 ?_
          refine lv_iload_n hx hb dX3_carryToArrival_105 rfl (lv_at hl 3 rfl) ?_
          obtain ⟨i14, h⟩ := ck_ok h
          refine va_iald hx hb hK hP 3 0 rfl rfl i14 dX3_carryToArrival_106 ?_
          refine lv_istore_n (lv' := [(2, .int (S12 2 y2.toNatClampNeg)), (4, .int (S 1 y2.toNatClampNeg)), (0, .ref (f 0)), (1, .int y1), (3, .int y3)]) hx hb dX3_carryToArrival_107 rfl hl (by decide) rfl (fun ls hl => ?_)
          refine lv_iinc (v := (y3 + 1)) (lv' := [(3, .int (y3 + 1)), (2, .int (S12 2 y2.toNatClampNeg)), (4, .int (S 1 y2.toNatClampNeg)), (0, .ref (f 0)), (1, .int y1)]) hx hb dX3_carryToArrival_108 hl (k := 4) rfl rfl (by decide) rfl (fun ls hl => ?_)
          refine lv_goto (tgt := 57) hx hb dX3_carryToArrival_111 (by decide) ?_
          exact ih57 S12 y1 (S12 2 y2.toNatClampNeg) (y3 + 1) _ _ ls h hP hD hS (lv_sub hl [3, 4, 1, 0] rfl)
  have w10 : ∀ (n10 : Nat) (S : Mm) (y1 y2 y3 : Int32) (H : Heap) (locs : List Loc) (ls : Array Slot), F_X3_carryToArrival_10 n10 S N y1 y2 y3 = some res → va_P D classes (wX3 f n cI cC cO S N) H → va_D A (wX3 f n cI cC cO S N) → va_S A s.heap H locs → lv_has ls 5 [(0, .ref (f 0)), (1, .int y1), (2, .int y2), (3, .int y3)] → W p l e ({ frames := 1, cells := 0, slots := 0, locals := 21 } : Room) s m ([.ref (f 0)] : List Value).toArray below meth c H locs 0 0 (MQ below (QI D cI cC cO A (wX3 f n cI cC cO res.2 N) res.1) ([.ref (f 0)] : List Value).toArray s 0 0 A) (F0 m 10 ls []) := by
    intro n10
    induction n10 with
    | zero => intro S y1 y2 y3 H locs ls h hP hD hS hl; exact absurd (show (none : Option (Int32 × Mm)) = some res from h) (by simp)
    | succ n10 ih10 =>
      intro S y1 y2 y3 H locs ls h hP hD hS hl
      have h : F_X3_carryToArrivalB_10 (F_X3_carryToArrival_10 n10) S N y1 y2 y3 = some res := h
      unfold F_X3_carryToArrivalB_10 at h
      refine lv_iload_n hx hb dX3_carryToArrival_10 rfl (lv_at hl 3 rfl) ?_
      refine lv_bipush (v := (96 : Int32)) hx hb dX3_carryToArrival_11 (by decide) ?_
      refine lv_icmp_ge (tgt := 50) hx hb dX3_carryToArrival_13 (by decide) (fun c1 => ?_) (fun c1 => ?_)
      · replace h := fp c1 h
        refine lv_aload_n hx hb dX3_carryToArrival_50 rfl (lv_at hl 0 rfl) ?_
        refine va_get (D := D) (ci := 3) (v := .int (S 4 1)) (C := RX3) (T := TX3) (N := 7) hx hb ht i_X3 hown hK hP 0 rfl rfl 6 (by decide) (ht _ wd_81) (fun _ h9 => h9) rfl dX3_carryToArrival_51 ?_
        refine lv_istore_n (lv' := [(2, .int (S 4 1)), (0, .ref (f 0)), (1, .int y1), (3, .int y3)]) hx hb dX3_carryToArrival_54 rfl hl (by decide) rfl (fun ls hl => ?_)
        refine lv_iconst (v := (0 : Int32)) hx hb dX3_carryToArrival_55 (by decide) ?_
        refine lv_istore_n (lv' := [(3, .int (0 : Int32)), (2, .int (S 4 1)), (0, .ref (f 0)), (1, .int y1)]) hx hb dX3_carryToArrival_56 rfl hl (by decide) rfl (fun ls hl => ?_)
        exact w57 FU S y1 (S 4 1) (0 : Int32) _ _ ls h hP hD hS (lv_sub hl [2, 3, 1, 0] rfl)
      · replace h := fn c1 h
        refine lv_iload_n hx hb dX3_carryToArrival_16 rfl (lv_at hl 2 rfl) ?_
        refine lv_iconst (v := (-1 : Int32)) hx hb dX3_carryToArrival_17 (by decide) ?_
        refine lv_icmp_eq (tgt := 50) hx hb dX3_carryToArrival_18 (by decide) (fun c2 => ?_) (fun c2 => ?_)
        · replace h := fp c2 h
          refine lv_aload_n hx hb dX3_carryToArrival_50 rfl (lv_at hl 0 rfl) ?_
          refine va_get (D := D) (ci := 3) (v := .int (S 4 1)) (C := RX3) (T := TX3) (N := 7) hx hb ht i_X3 hown hK hP 0 rfl rfl 6 (by decide) (ht _ wd_81) (fun _ h9 => h9) rfl dX3_carryToArrival_51 ?_
          refine lv_istore_n (lv' := [(2, .int (S 4 1)), (0, .ref (f 0)), (1, .int y1), (3, .int y3)]) hx hb dX3_carryToArrival_54 rfl hl (by decide) rfl (fun ls hl => ?_)
          refine lv_iconst (v := (0 : Int32)) hx hb dX3_carryToArrival_55 (by decide) ?_
          refine lv_istore_n (lv' := [(3, .int (0 : Int32)), (2, .int (S 4 1)), (0, .ref (f 0)), (1, .int y1)]) hx hb dX3_carryToArrival_56 rfl hl (by decide) rfl (fun ls hl => ?_)
          exact w57 FU S y1 (S 4 1) (0 : Int32) _ _ ls h hP hD hS (lv_sub hl [2, 3, 1, 0] rfl)
        · replace h := fn c2 h
          refine lv_iload_n hx hb dX3_carryToArrival_21 rfl (lv_at hl 1 rfl) ?_
          refine lv_aload_n hx hb dX3_carryToArrival_22 rfl (lv_at hl 0 rfl) ?_
          refine va_get (D := D) (ci := 3) (v := .ref (f 1)) (C := RX3) (T := TX3) (N := 7) hx hb ht i_X3 hown hK hP 0 rfl rfl 1 (by decide) (ht _ wd_76) (fun _ h9 => h9) rfl dX3_carryToArrival_23 ?_
          refine lv_aload_n hx hb dX3_carryToArrival_26 rfl (lv_at hl 0 rfl) ?_
          refine va_get (D := D) (ci := 3) (v := .ref (f 2)) (C := RX3) (T := TX3) (N := 7) hx hb ht i_X3 hown hK hP 0 rfl rfl 2 (by decide) (ht _ wd_77) (fun _ h9 => h9) rfl dX3_carryToArrival_27 ?_
          refine lv_iload_n hx hb dX3_carryToArrival_30 rfl (lv_at hl 2 rfl) ?_
          obtain ⟨i3, h⟩ := ck_ok h
          refine va_iald hx hb hK hP 2 0 rfl rfl i3 dX3_carryToArrival_31 ?_
          obtain ⟨i4, h⟩ := ck_ok h
          refine va_iald hx hb hK hP 1 0 rfl rfl i4 dX3_carryToArrival_32 ?_
          refine va_mmin hx hb (hml.trans hl.1.symm) hown (ht _ wd_337) (ht _ wd_338) (ht _ wd_8) (ht _ wd_339) (Nat.le_of_ble_eq_true rfl) (Nat.le_of_ble_eq_true rfl) (Nat.le_of_ble_eq_true rfl) (Nat.le_of_ble_eq_true rfl) dX3_carryToArrival_33 ?_
          refine lv_istore_n (lv' := [(1, .int (if (S 0 (S 1 y2.toNatClampNeg).toNatClampNeg) < y1 then (S 0 (S 1 y2.toNatClampNeg).toNatClampNeg) else y1)), (0, .ref (f 0)), (2, .int y2), (3, .int y3)]) hx hb dX3_carryToArrival_36 rfl hl (by decide) rfl (fun ls hl => ?_)
          refine lv_aload_n hx hb dX3_carryToArrival_37 rfl (lv_at hl 1 rfl) ?_
          refine va_get (D := D) (ci := 3) (v := .ref (f 3)) (C := RX3) (T := TX3) (N := 7) hx hb ht i_X3 hown hK hP 0 rfl rfl 3 (by decide) (ht _ wd_78) (fun _ h9 => h9) rfl dX3_carryToArrival_38 ?_
          refine lv_iload_n hx hb dX3_carryToArrival_41 rfl (lv_at hl 2 rfl) ?_
          obtain ⟨i5, h⟩ := ck_ok h
          refine va_iald hx hb hK hP 3 0 rfl rfl i5 dX3_carryToArrival_42 ?_
          refine lv_istore_n (lv' := [(2, .int (S 2 y2.toNatClampNeg)), (1, .int (if (S 0 (S 1 y2.toNatClampNeg).toNatClampNeg) < y1 then (S 0 (S 1 y2.toNatClampNeg).toNatClampNeg) else y1)), (0, .ref (f 0)), (3, .int y3)]) hx hb dX3_carryToArrival_43 rfl hl (by decide) rfl (fun ls hl => ?_)
          refine lv_iinc (v := (y3 + 1)) (lv' := [(3, .int (y3 + 1)), (2, .int (S 2 y2.toNatClampNeg)), (1, .int (if (S 0 (S 1 y2.toNatClampNeg).toNatClampNeg) < y1 then (S 0 (S 1 y2.toNatClampNeg).toNatClampNeg) else y1)), (0, .ref (f 0))]) hx hb dX3_carryToArrival_44 hl (k := 3) rfl rfl (by decide) rfl (fun ls hl => ?_)
          refine lv_goto (tgt := 10) hx hb dX3_carryToArrival_47 (by decide) ?_
          exact ih10 S (if (S 0 (S 1 y2.toNatClampNeg).toNatClampNeg) < y1 then (S 0 (S 1 y2.toNatClampNeg).toNatClampNeg) else y1) (S 2 y2.toNatClampNeg) (y3 + 1) _ _ ls h hP hD hS (lv_sub hl [3, 2, 1, 0] rfl)
  unfold F_X3_carryToArrival at h
  refine lv_ldc hx hb hown (ht _ wd_319) dX3_carryToArrival_0 ?_
  refine lv_istore_n (lv' := [(1, .int (1000000 : Int32)), (0, .ref (f 0))]) hx hb dX3_carryToArrival_2 rfl hl (by decide) rfl (fun ls hl => ?_)
  refine lv_aload_n hx hb dX3_carryToArrival_3 rfl (lv_at hl 1 rfl) ?_
  refine va_get (D := D) (ci := 3) (v := .int (S 4 1)) (C := RX3) (T := TX3) (N := 7) hx hb ht i_X3 hown hK hP 0 rfl rfl 6 (by decide) (ht _ wd_81) (fun _ h9 => h9) rfl dX3_carryToArrival_4 ?_
  refine lv_istore_n (lv' := [(2, .int (S 4 1)), (1, .int (1000000 : Int32)), (0, .ref (f 0))]) hx hb dX3_carryToArrival_7 rfl hl (by decide) rfl (fun ls hl => ?_)
  refine lv_iconst (v := (0 : Int32)) hx hb dX3_carryToArrival_8 (by decide) ?_
  refine lv_istore_n (lv' := [(3, .int (0 : Int32)), (2, .int (S 4 1)), (1, .int (1000000 : Int32)), (0, .ref (f 0))]) hx hb dX3_carryToArrival_9 rfl hl (by decide) rfl (fun ls hl => ?_)
  exact w10 FU S (1000000 : Int32) (S 4 1) (0 : Int32) _ _ ls h hP hD hS (lv_sub hl [3, 2, 1, 0] rfl)
theorem dX3_moreBy_0 : decode cX3_moreBy 0 = .ok (.iconst 0, 1) := by decide +kernel
theorem dX3_moreBy_1 : decode cX3_moreBy 1 = .ok (.istore_n 2, 1) := by decide +kernel
theorem dX3_moreBy_2 : decode cX3_moreBy 2 = .ok (.iconst 0, 1) := by decide +kernel
theorem dX3_moreBy_3 : decode cX3_moreBy 3 = .ok (.istore_n 3, 1) := by decide +kernel
theorem dX3_moreBy_4 : decode cX3_moreBy 4 = .ok (.iload_n 3, 1) := by decide +kernel
theorem dX3_moreBy_5 : decode cX3_moreBy 5 = .ok (.ldc 66, 2) := by decide +kernel
theorem dX3_moreBy_7 : decode cX3_moreBy 7 = .ok (.if_icmp .ge 32, 3) := by decide +kernel
theorem dX3_moreBy_10 : decode cX3_moreBy 10 = .ok (.aload_n 0, 1) := by decide +kernel
theorem dX3_moreBy_11 : decode cX3_moreBy 11 = .ok (.iload_n 1, 1) := by decide +kernel
theorem dX3_moreBy_12 : decode cX3_moreBy 12 = .ok (.invokevirtual 112, 3) := by decide +kernel
theorem dX3_moreBy_15 : decode cX3_moreBy 15 = .ok (.aload_n 0, 1) := by decide +kernel
theorem dX3_moreBy_16 : decode cX3_moreBy 16 = .ok (.getfield 35, 3) := by decide +kernel
theorem dX3_moreBy_19 : decode cX3_moreBy 19 = .ok (.iconst (-1), 1) := by decide +kernel
theorem dX3_moreBy_20 : decode cX3_moreBy 20 = .ok (.if_icmp .ne 6, 3) := by decide +kernel
theorem dX3_moreBy_23 : decode cX3_moreBy 23 = .ok (.goto 16, 3) := by decide +kernel
theorem dX3_moreBy_26 : decode cX3_moreBy 26 = .ok (.iload_n 2, 1) := by decide +kernel
theorem dX3_moreBy_27 : decode cX3_moreBy 27 = .ok (.aload_n 0, 1) := by decide +kernel
theorem dX3_moreBy_28 : decode cX3_moreBy 28 = .ok (.invokevirtual 116, 3) := by decide +kernel
theorem dX3_moreBy_31 : decode cX3_moreBy 31 = .ok (.iadd, 1) := by decide +kernel
theorem dX3_moreBy_32 : decode cX3_moreBy 32 = .ok (.istore_n 2, 1) := by decide +kernel
theorem dX3_moreBy_33 : decode cX3_moreBy 33 = .ok (.iinc 3 1, 3) := by decide +kernel
theorem dX3_moreBy_36 : decode cX3_moreBy 36 = .ok (.goto (-32), 3) := by decide +kernel
theorem dX3_moreBy_39 : decode cX3_moreBy 39 = .ok (.iload_n 2, 1) := by decide +kernel
theorem dX3_moreBy_40 : decode cX3_moreBy 40 = .ok (.ireturn, 1) := by decide +kernel
set_option maxHeartbeats 4000000 in
set_option maxRecDepth 100000 in
theorem c_X3_moreBy (l : Launch) (D : va_G) (cI cC cO : ClassId) (f : Nat → Nat) (n : Nat → Nat) (S : Mm) (N : Mm) (x1 : Int32) (res : Int32 × Mm) (sz : Nat) (h : F_X3_moreBy S N x1 = some res) : Met l yX3_moreBy (Cond.code yX3_moreBy cX3_moreBy 4 (Option.some Jvm.ClassFile.FieldType.int) :: lw_g) ({ frames := 3, cells := 0, slots := 0, locals := 73 } : Room) (va_Pc [.ref (f 0), .int x1] (pS D cI cC cO sz (wX3 f n cI cC cO S N))) (QI D cI cC cO (va_A (wX3 f n cI cC cO S N) sz) (wX3 f n cI cC cO res.2 N) res.1) 0 0 (va_A (wX3 f n cI cC cO S N) sz) := by
  refine Met.ofW (cc := cX3_moreBy) (maxL := 4) (ret := (Option.some Jvm.ClassFile.FieldType.int)) (by decide) rfl ?_
  intro p e s m args below meth c s₁ B hml hv
  obtain ⟨rfl, rfl, hP, hK, hD0, hN⟩ := hv
  have hx := B.exec
  have hb := B.bytes
  have hr := B.returns
  have ht : ∀ w ∈ lw_g, w.before ([.ref (f 0), .int x1] : List Value).toArray s = true := fun w hw => atoms_spec (ws := Cond.code yX3_moreBy cX3_moreBy 4 (Option.some Jvm.ClassFile.FieldType.int) :: lw_g) B.pre w (List.mem_cons_of_mem _ hw)
  have hown : s.vm.findClass RX3 = some m.cls := findClass_of_methodNamed B.named
  have hlocks := B.notSynchronized
  have hD := hD0.self (sz := s.heap.size)
  generalize hAe : va_A (wX3 f n cI cC cO S N) s.heap.size = A at hD ⊢
  have hA : ∀ q : Nat, s.heap.size ≤ q → A q := fun q hq => by rw [← hAe]; exact Or.inr hq
  have hS : va_S A s.heap s.heap [] := va_S.rf
  have hl := lv_entry ([.ref (f 0), .int x1]) (n := 4) (Nat.le_of_ble_eq_true rfl)
  rw [lg_entry_eq]
  generalize (lg_sl ([.ref (f 0), .int x1]) ++ List.replicate (4 - (lg_sl ([.ref (f 0), .int x1])).length) Slot.unset).toArray = ls at hl ⊢
  have hl : lv_has ls 4 [(0, .ref (f 0)), (1, .int x1)] := hl
  have w4 : ∀ (n4 : Nat) (S : Mm) (y1 y2 y3 : Int32) (H : Heap) (locs : List Loc) (ls : Array Slot), F_X3_moreBy_4 n4 S N y1 y2 y3 = some res → va_P D classes (wX3 f n cI cC cO S N) H → va_D A (wX3 f n cI cC cO S N) → va_S A s.heap H locs → lv_has ls 4 [(0, .ref (f 0)), (1, .int y1), (2, .int y2), (3, .int y3)] → W p l e ({ frames := 3, cells := 0, slots := 0, locals := 73 } : Room) s m ([.ref (f 0), .int x1] : List Value).toArray below meth c H locs 0 0 (MQ below (QI D cI cC cO A (wX3 f n cI cC cO res.2 N) res.1) ([.ref (f 0), .int x1] : List Value).toArray s 0 0 A) (F0 m 4 ls []) := by
    intro n4
    induction n4 with
    | zero => intro S y1 y2 y3 H locs ls h hP hD hS hl; exact absurd (show (none : Option (Int32 × Mm)) = some res from h) (by simp)
    | succ n4 ih4 =>
      intro S y1 y2 y3 H locs ls h hP hD hS hl
      have h : F_X3_moreByB_4 (F_X3_moreBy_4 n4) S N y1 y2 y3 = some res := h
      unfold F_X3_moreByB_4 at h
      refine lv_iload_n hx hb dX3_moreBy_4 rfl (lv_at hl 3 rfl) ?_
      refine lv_ldc hx hb hown (ht _ wd_319) dX3_moreBy_5 ?_
      refine lv_icmp_ge (tgt := 39) hx hb dX3_moreBy_7 (by decide) (fun c1 => ?_) (fun c1 => ?_)
      · replace h := fp c1 h
        refine lv_iload_n hx hb dX3_moreBy_39 rfl (lv_at hl 2 rfl) ?_
        cases h
        exact rt_i hx hb hr hlocks hS hP hK hD dX3_moreBy_40
      · replace h := fn c1 h
        refine lv_aload_n hx hb dX3_moreBy_10 rfl (lv_at hl 0 rfl) ?_
        refine lv_iload_n hx hb dX3_moreBy_11 rfl (lv_at hl 1 rfl) ?_
        obtain ⟨S2, e3, h⟩ := b1_ok h
        refine cl_Vv (ws' := (wX3 f n cI cC cO S2 N)) ⟨hx, hb, hml, hown, ht⟩ (c_X3_search l D cI cC cO f n S N y1 _ _ e3) (cwv 1 ht wd_323 wd_4 wd_320 wd_322 ws_5 (by decide +kernel) rfl rfl ⟨Nat.le_of_ble_eq_true rfl, Nat.le_of_ble_eq_true rfl⟩) 3 0 rfl rfl rfl hK hP hD hS hA hN [0, 1, 2, 3, 4, 5, 6, 7, 8] [] [0, 1, 2, 3, 4, 5, 6, 7, 8] (by decide) rfl rfl (by decide) (by decide) rfl (by decide) rfl hl.1 rfl (Nat.le_of_ble_eq_true rfl) dX3_moreBy_12 ⟨Nat.le_of_ble_eq_true rfl, Nat.le_of_ble_eq_true rfl⟩ (fun H locs hP hD hS => ?_)
        refine lv_aload_n hx hb dX3_moreBy_15 rfl (lv_at hl 0 rfl) ?_
        refine va_get (D := D) (ci := 3) (v := .int (S2 4 1)) (C := RX3) (T := TX3) (N := 7) hx hb ht i_X3 hown hK hP 0 rfl rfl 6 (by decide) (ht _ wd_81) (fun _ h9 => h9) rfl dX3_moreBy_16 ?_
        refine lv_iconst (v := (-1 : Int32)) hx hb dX3_moreBy_19 (by decide) ?_
        refine lv_icmp_ne (tgt := 26) hx hb dX3_moreBy_20 (by decide) (fun c4 => ?_) (fun c4 => ?_)
        · replace h := fn c4 h
          refine lv_iload_n hx hb dX3_moreBy_26 rfl (lv_at hl 2 rfl) ?_
          refine lv_aload_n hx hb dX3_moreBy_27 rfl (lv_at hl 0 rfl) ?_
          obtain ⟨u5, S6, e7, h⟩ := b2_ok h
          refine cl_Vi (ws' := (wX3 f n cI cC cO S6 N)) ⟨hx, hb, hml, hown, ht⟩ (c_X3_carryToArrival l D cI cC cO f n S2 N _ _ e7) (cwv 0 ht wd_336 wd_4 wd_333 wd_335 ws_8 (by decide +kernel) rfl rfl ⟨Nat.le_of_ble_eq_true rfl, Nat.le_of_ble_eq_true rfl⟩) 3 0 rfl rfl rfl hK hP hD hS hA hN [0, 1, 2, 3, 4, 5, 6, 7, 8] [] [0, 1, 2, 3, 4, 5, 6, 7, 8] (by decide) rfl rfl (by decide) (by decide) rfl (by decide) rfl hl.1 rfl (Nat.le_of_ble_eq_true rfl) dX3_moreBy_28 ⟨Nat.le_of_ble_eq_true rfl, Nat.le_of_ble_eq_true rfl⟩ (fun H locs hP hD hS => ?_)
          refine lv_iadd hx hb dX3_moreBy_31 ?_
          refine lv_istore_n (lv' := [(2, .int (y2 + u5)), (0, .ref (f 0)), (1, .int y1), (3, .int y3)]) hx hb dX3_moreBy_32 rfl hl (by decide) rfl (fun ls hl => ?_)
          refine lv_iinc (v := (y3 + 1)) (lv' := [(3, .int (y3 + 1)), (2, .int (y2 + u5)), (0, .ref (f 0)), (1, .int y1)]) hx hb dX3_moreBy_33 hl (k := 3) rfl rfl (by decide) rfl (fun ls hl => ?_)
          refine lv_goto (tgt := 4) hx hb dX3_moreBy_36 (by decide) ?_
          exact ih4 S6 y1 (y2 + u5) (y3 + 1) _ _ ls h hP hD hS (lv_sub hl [2, 3, 1, 0] rfl)
        · replace h := fp c4 h
          refine lv_goto (tgt := 39) hx hb dX3_moreBy_23 (by decide) ?_
          refine lv_iload_n hx hb dX3_moreBy_39 rfl (lv_at hl 2 rfl) ?_
          cases h
          exact rt_i hx hb hr hlocks hS hP hK hD dX3_moreBy_40
  unfold F_X3_moreBy at h
  refine lv_iconst (v := (0 : Int32)) hx hb dX3_moreBy_0 (by decide) ?_
  refine lv_istore_n (lv' := [(2, .int (0 : Int32)), (0, .ref (f 0)), (1, .int x1)]) hx hb dX3_moreBy_1 rfl hl (by decide) rfl (fun ls hl => ?_)
  refine lv_iconst (v := (0 : Int32)) hx hb dX3_moreBy_2 (by decide) ?_
  refine lv_istore_n (lv' := [(3, .int (0 : Int32)), (2, .int (0 : Int32)), (0, .ref (f 0)), (1, .int x1)]) hx hb dX3_moreBy_3 rfl hl (by decide) rfl (fun ls hl => ?_)
  exact w4 FU S x1 (0 : Int32) (0 : Int32) _ _ ls h hP hD hS (lv_sub hl [2, 3, 1, 0] rfl)
theorem dX3_mostBy_0 : decode cX3_mostBy 0 = .ok (.aload_n 0, 1) := by decide +kernel
theorem dX3_mostBy_1 : decode cX3_mostBy 1 = .ok (.invokevirtual 92, 3) := by decide +kernel
theorem dX3_mostBy_4 : decode cX3_mostBy 4 = .ok (.aload_n 0, 1) := by decide +kernel
theorem dX3_mostBy_5 : decode cX3_mostBy 5 = .ok (.getfield 14, 3) := by decide +kernel
theorem dX3_mostBy_8 : decode cX3_mostBy 8 = .ok (.getfield 54, 3) := by decide +kernel
theorem dX3_mostBy_11 : decode cX3_mostBy 11 = .ok (.iconst 0, 1) := by decide +kernel
theorem dX3_mostBy_12 : decode cX3_mostBy 12 = .ok (.iaload, 1) := by decide +kernel
theorem dX3_mostBy_13 : decode cX3_mostBy 13 = .ok (.aload_n 0, 1) := by decide +kernel
theorem dX3_mostBy_14 : decode cX3_mostBy 14 = .ok (.iload_n 1, 1) := by decide +kernel
theorem dX3_mostBy_15 : decode cX3_mostBy 15 = .ok (.invokevirtual 95, 3) := by decide +kernel
theorem dX3_mostBy_18 : decode cX3_mostBy 18 = .ok (.iadd, 1) := by decide +kernel
theorem dX3_mostBy_19 : decode cX3_mostBy 19 = .ok (.ireturn, 1) := by decide +kernel
set_option maxHeartbeats 4000000 in
set_option maxRecDepth 100000 in
theorem c_X3_mostBy (l : Launch) (D : va_G) (cI cC cO : ClassId) (f : Nat → Nat) (n : Nat → Nat) (S : Mm) (N : Mm) (x1 : Int32) (res : Int32 × Mm) (sz : Nat) (h : F_X3_mostBy S N x1 = some res) : Met l yX3_mostBy (Cond.code yX3_mostBy cX3_mostBy 2 (Option.some Jvm.ClassFile.FieldType.int) :: lw_g) ({ frames := 4, cells := 0, slots := 0, locals := 96 } : Room) (va_Pc [.ref (f 0), .int x1] (pS D cI cC cO sz (wX3 f n cI cC cO S N))) (QI D cI cC cO (va_A (wX3 f n cI cC cO S N) sz) (wX3 f n cI cC cO res.2 N) res.1) 0 0 (va_A (wX3 f n cI cC cO S N) sz) := by
  refine Met.ofW (cc := cX3_mostBy) (maxL := 2) (ret := (Option.some Jvm.ClassFile.FieldType.int)) (by decide) rfl ?_
  intro p e s m args below meth c s₁ B hml hv
  obtain ⟨rfl, rfl, hP, hK, hD0, hN⟩ := hv
  have hx := B.exec
  have hb := B.bytes
  have hr := B.returns
  have ht : ∀ w ∈ lw_g, w.before ([.ref (f 0), .int x1] : List Value).toArray s = true := fun w hw => atoms_spec (ws := Cond.code yX3_mostBy cX3_mostBy 2 (Option.some Jvm.ClassFile.FieldType.int) :: lw_g) B.pre w (List.mem_cons_of_mem _ hw)
  have hown : s.vm.findClass RX3 = some m.cls := findClass_of_methodNamed B.named
  have hlocks := B.notSynchronized
  have hD := hD0.self (sz := s.heap.size)
  generalize hAe : va_A (wX3 f n cI cC cO S N) s.heap.size = A at hD ⊢
  have hA : ∀ q : Nat, s.heap.size ≤ q → A q := fun q hq => by rw [← hAe]; exact Or.inr hq
  have hS : va_S A s.heap s.heap [] := va_S.rf
  have hl := lv_entry ([.ref (f 0), .int x1]) (n := 2) (Nat.le_of_ble_eq_true rfl)
  rw [lg_entry_eq]
  generalize (lg_sl ([.ref (f 0), .int x1]) ++ List.replicate (2 - (lg_sl ([.ref (f 0), .int x1])).length) Slot.unset).toArray = ls at hl ⊢
  have hl : lv_has ls 2 [(0, .ref (f 0)), (1, .int x1)] := hl
  unfold F_X3_mostBy at h
  refine lv_aload_n hx hb dX3_mostBy_0 rfl (lv_at hl 0 rfl) ?_
  obtain ⟨S1, e2, h⟩ := b1_ok h
  refine cl_Vv (ws' := (wX3 f n cI cC cO S1 N)) ⟨hx, hb, hml, hown, ht⟩ (c_X3_begin l D cI cC cO f n S N _ _ e2) (cwv 0 ht wd_294 wd_4 wd_291 wd_293 ws_2 (by decide +kernel) rfl rfl ⟨Nat.le_of_ble_eq_true rfl, Nat.le_of_ble_eq_true rfl⟩) 3 0 rfl rfl rfl hK hP hD hS hA hN [0, 1, 2, 3, 4, 5, 6, 7, 8] [] [0, 1, 2, 3, 4, 5, 6, 7, 8] (by decide) rfl rfl (by decide) (by decide) rfl (by decide) rfl hl.1 rfl (Nat.le_of_ble_eq_true rfl) dX3_mostBy_1 ⟨Nat.le_of_ble_eq_true rfl, Nat.le_of_ble_eq_true rfl⟩ (fun H locs hP hD hS => ?_)
  refine lv_aload_n hx hb dX3_mostBy_4 rfl (lv_at hl 0 rfl) ?_
  refine va_get (D := D) (ci := 3) (v := .ref (n 0)) (C := RX3) (T := TX3) (N := 7) hx hb ht i_X3 hown hK hP 0 rfl rfl 0 (by decide) (ht _ wd_75) (fun _ h9 => h9) rfl dX3_mostBy_5 ?_
  refine va_getN (D := D) (ci := 1) (v := .ref (n 1)) (C := RX1) (T := TX1) (N := 5) hx hb ht i_X1 hown hK hP 5 rfl rfl 0 (by decide) (va_Nw.use rfl (hN.1 _ _ _ _ _ _ wd_25)) (fun _ h9 => h9) rfl dX3_mostBy_8 ?_
  refine lv_iconst (v := (0 : Int32)) hx hb dX3_mostBy_11 (by decide) ?_
  obtain ⟨i3, h⟩ := ck_ok h
  refine va_iald hx hb hK hP 6 0 rfl rfl i3 dX3_mostBy_12 ?_
  refine lv_aload_n hx hb dX3_mostBy_13 rfl (lv_at hl 0 rfl) ?_
  refine lv_iload_n hx hb dX3_mostBy_14 rfl (lv_at hl 1 rfl) ?_
  obtain ⟨u4, S5, e6, h⟩ := b2_ok h
  refine cl_Vi (ws' := (wX3 f n cI cC cO S5 N)) ⟨hx, hb, hml, hown, ht⟩ (c_X3_moreBy l D cI cC cO f n S1 N x1 _ _ e6) (cwv 1 ht wd_318 wd_4 wd_315 wd_317 ws_4 (by decide +kernel) rfl rfl ⟨Nat.le_of_ble_eq_true rfl, Nat.le_of_ble_eq_true rfl⟩) 3 0 rfl rfl rfl hK hP hD hS hA hN [0, 1, 2, 3, 4, 5, 6, 7, 8] [] [0, 1, 2, 3, 4, 5, 6, 7, 8] (by decide) rfl rfl (by decide) (by decide) rfl (by decide) rfl hl.1 rfl (Nat.le_of_ble_eq_true rfl) dX3_mostBy_15 ⟨Nat.le_of_ble_eq_true rfl, Nat.le_of_ble_eq_true rfl⟩ (fun H locs hP hD hS => ?_)
  refine lv_iadd hx hb dX3_mostBy_18 ?_
  cases h
  exact rt_i hx hb hr hlocks hS hP hK hD dX3_mostBy_19
theorem dX3_most_0 : decode cX3_most 0 = .ok (.aload_n 0, 1) := by decide +kernel
theorem dX3_most_1 : decode cX3_most 1 = .ok (.getfield 14, 3) := by decide +kernel
theorem dX3_most_4 : decode cX3_most 4 = .ok (.aload_n 1, 1) := by decide +kernel
theorem dX3_most_5 : decode cX3_most 5 = .ok (.invokevirtual 38, 3) := by decide +kernel
theorem dX3_most_8 : decode cX3_most 8 = .ok (.aload_n 0, 1) := by decide +kernel
theorem dX3_most_9 : decode cX3_most 9 = .ok (.iload_n 2, 1) := by decide +kernel
theorem dX3_most_10 : decode cX3_most 10 = .ok (.invokevirtual 42, 3) := by decide +kernel
theorem dX3_most_13 : decode cX3_most 13 = .ok (.ireturn, 1) := by decide +kernel
set_option maxHeartbeats 4000000 in
set_option maxRecDepth 100000 in
theorem c_X3_most (l : Launch) (D : va_G) (cI cC cO : ClassId) (f : Nat → Nat) (n : Nat → Nat) (b : Nat → Nat) (S : Mm) (N : Mm) (O : Mm) (x2 : Int32) (res : Int32 × Mm × Mm) (sz : Nat) (h : F_X3_most S N O x2 = some res) : Met l yX3_most (Cond.code yX3_most cX3_most 3 (Option.some Jvm.ClassFile.FieldType.int) :: lw_g) ({ frames := 5, cells := 0, slots := 0, locals := 117 } : Room) (va_Pc [.ref (f 0), .ref (b 0), .int x2] (pS D cI cC cO sz ((wX3 f n cI cC cO S N) ++ (wX1 b cI cC cO O)))) (QI D cI cC cO (va_A ((wX3 f n cI cC cO S N) ++ (wX1 b cI cC cO O)) sz) ((wX3 f n cI cC cO res.2.1 res.2.2) ++ (wX1 b cI cC cO O)) res.1) 0 0 (va_A ((wX3 f n cI cC cO S N) ++ (wX1 b cI cC cO O)) sz) := by
  refine Met.ofW (cc := cX3_most) (maxL := 3) (ret := (Option.some Jvm.ClassFile.FieldType.int)) (by decide) rfl ?_
  intro p e s m args below meth c s₁ B hml hv
  obtain ⟨rfl, rfl, hP, hK, hD0, hN⟩ := hv
  have hx := B.exec
  have hb := B.bytes
  have hr := B.returns
  have ht : ∀ w ∈ lw_g, w.before ([.ref (f 0), .ref (b 0), .int x2] : List Value).toArray s = true := fun w hw => atoms_spec (ws := Cond.code yX3_most cX3_most 3 (Option.some Jvm.ClassFile.FieldType.int) :: lw_g) B.pre w (List.mem_cons_of_mem _ hw)
  have hown : s.vm.findClass RX3 = some m.cls := findClass_of_methodNamed B.named
  have hlocks := B.notSynchronized
  have hD := hD0.self (sz := s.heap.size)
  generalize hAe : va_A ((wX3 f n cI cC cO S N) ++ (wX1 b cI cC cO O)) s.heap.size = A at hD ⊢
  have hA : ∀ q : Nat, s.heap.size ≤ q → A q := fun q hq => by rw [← hAe]; exact Or.inr hq
  have hS : va_S A s.heap s.heap [] := va_S.rf
  have hl := lv_entry ([.ref (f 0), .ref (b 0), .int x2]) (n := 3) (Nat.le_of_ble_eq_true rfl)
  rw [lg_entry_eq]
  generalize (lg_sl ([.ref (f 0), .ref (b 0), .int x2]) ++ List.replicate (3 - (lg_sl ([.ref (f 0), .ref (b 0), .int x2])).length) Slot.unset).toArray = ls at hl ⊢
  have hl : lv_has ls 3 [(0, .ref (f 0)), (1, .ref (b 0)), (2, .int x2)] := hl
  unfold F_X3_most at h
  refine lv_aload_n hx hb dX3_most_0 rfl (lv_at hl 0 rfl) ?_
  refine va_get (D := D) (ci := 3) (v := .ref (n 0)) (C := RX3) (T := TX3) (N := 7) hx hb ht i_X3 hown hK hP 0 rfl rfl 0 (by decide) (ht _ wd_75) (fun _ h9 => h9) rfl dX3_most_1 ?_
  refine lv_aload_n hx hb dX3_most_4 rfl (lv_at hl 1 rfl) ?_
  obtain ⟨N1, e2, h⟩ := b1_ok h
  refine cl_Vv (ws' := ((wX3 f n cI cC cO S N1) ++ (wX1 b cI cC cO O))) ⟨hx, hb, hml, hown, ht⟩ (c_X1_copyFrom l D cI cC cO n b N O _ _ e2) (cwv 1 ht wd_179 wd_2 wd_283 wd_177 wd_178 (by decide +kernel) rfl rfl ⟨Nat.le_of_ble_eq_true rfl, Nat.le_of_ble_eq_true rfl⟩) 1 0 rfl rfl rfl hK hP hD hS hA hN [5, 6, 7, 8, 9, 10, 11, 12] [0, 1, 2, 3, 4] [0, 1, 2, 3, 4, 5, 6, 7, 8, 9, 10, 11, 12] (by decide) rfl rfl (by decide) (by decide) rfl (by decide) rfl hl.1 rfl (Nat.le_of_ble_eq_true rfl) dX3_most_5 ⟨Nat.le_of_ble_eq_true rfl, Nat.le_of_ble_eq_true rfl⟩ (fun H locs hP hD hS => ?_)
  refine lv_aload_n hx hb dX3_most_8 rfl (lv_at hl 0 rfl) ?_
  refine lv_iload_n hx hb dX3_most_9 rfl (lv_at hl 2 rfl) ?_
  obtain ⟨u3, S4, e5, h⟩ := b2_ok h
  refine cl_Vi (ws' := ((wX3 f n cI cC cO S4 N1) ++ (wX1 b cI cC cO O))) ⟨hx, hb, hml, hown, ht⟩ (c_X3_mostBy l D cI cC cO f n S N1 x2 _ _ e5) (cwv 1 ht wd_353 wd_4 wd_350 wd_352 ws_9 (by decide +kernel) rfl rfl ⟨Nat.le_of_ble_eq_true rfl, Nat.le_of_ble_eq_true rfl⟩) 3 0 rfl rfl rfl hK hP hD hS hA hN [0, 1, 2, 3, 4, 5, 6, 7, 8] [9, 10, 11, 12] [4, 5, 6, 7, 8, 9, 10, 11, 12, 0, 1, 2, 3] (by decide) rfl rfl (by decide) (by decide) rfl (by decide) rfl hl.1 rfl (Nat.le_of_ble_eq_true rfl) dX3_most_10 ⟨Nat.le_of_ble_eq_true rfl, Nat.le_of_ble_eq_true rfl⟩ (fun H locs hP hD hS => ?_)
  cases h
  exact rt_i hx hb hr hlocks hS hP hK hD dX3_most_13
theorem dX3_mostWithout_0 : decode cX3_mostWithout 0 = .ok (.aload_n 0, 1) := by decide +kernel
theorem dX3_mostWithout_1 : decode cX3_mostWithout 1 = .ok (.getfield 14, 3) := by decide +kernel
theorem dX3_mostWithout_4 : decode cX3_mostWithout 4 = .ok (.aload_n 1, 1) := by decide +kernel
theorem dX3_mostWithout_5 : decode cX3_mostWithout 5 = .ok (.invokevirtual 38, 3) := by decide +kernel
theorem dX3_mostWithout_8 : decode cX3_mostWithout 8 = .ok (.aload_n 0, 1) := by decide +kernel
theorem dX3_mostWithout_9 : decode cX3_mostWithout 9 = .ok (.getfield 14, 3) := by decide +kernel
theorem dX3_mostWithout_12 : decode cX3_mostWithout 12 = .ok (.iload_n 2, 1) := by decide +kernel
theorem dX3_mostWithout_13 : decode cX3_mostWithout 13 = .ok (.iconst 3, 1) := by decide +kernel
theorem dX3_mostWithout_14 : decode cX3_mostWithout 14 = .ok (.iconst 0, 1) := by decide +kernel
theorem dX3_mostWithout_15 : decode cX3_mostWithout 15 = .ok (.invokevirtual 46, 3) := by decide +kernel
theorem dX3_mostWithout_18 : decode cX3_mostWithout 18 = .ok (.aload_n 0, 1) := by decide +kernel
theorem dX3_mostWithout_19 : decode cX3_mostWithout 19 = .ok (.iload_n 3, 1) := by decide +kernel
theorem dX3_mostWithout_20 : decode cX3_mostWithout 20 = .ok (.invokevirtual 42, 3) := by decide +kernel
theorem dX3_mostWithout_23 : decode cX3_mostWithout 23 = .ok (.ireturn, 1) := by decide +kernel
set_option maxHeartbeats 4000000 in
set_option maxRecDepth 100000 in
theorem c_X3_mostWithout (l : Launch) (D : va_G) (cI cC cO : ClassId) (f : Nat → Nat) (n : Nat → Nat) (b : Nat → Nat) (S : Mm) (N : Mm) (O : Mm) (x2 x3 : Int32) (res : Int32 × Mm × Mm) (sz : Nat) (h : F_X3_mostWithout S N O x2 x3 = some res) : Met l yX3_mostWithout (Cond.code yX3_mostWithout cX3_mostWithout 4 (Option.some Jvm.ClassFile.FieldType.int) :: lw_g) ({ frames := 5, cells := 0, slots := 0, locals := 117 } : Room) (va_Pc [.ref (f 0), .ref (b 0), .int x2, .int x3] (pS D cI cC cO sz ((wX3 f n cI cC cO S N) ++ (wX1 b cI cC cO O)))) (QI D cI cC cO (va_A ((wX3 f n cI cC cO S N) ++ (wX1 b cI cC cO O)) sz) ((wX3 f n cI cC cO res.2.1 res.2.2) ++ (wX1 b cI cC cO O)) res.1) 0 0 (va_A ((wX3 f n cI cC cO S N) ++ (wX1 b cI cC cO O)) sz) := by
  refine Met.ofW (cc := cX3_mostWithout) (maxL := 4) (ret := (Option.some Jvm.ClassFile.FieldType.int)) (by decide) rfl ?_
  intro p e s m args below meth c s₁ B hml hv
  obtain ⟨rfl, rfl, hP, hK, hD0, hN⟩ := hv
  have hx := B.exec
  have hb := B.bytes
  have hr := B.returns
  have ht : ∀ w ∈ lw_g, w.before ([.ref (f 0), .ref (b 0), .int x2, .int x3] : List Value).toArray s = true := fun w hw => atoms_spec (ws := Cond.code yX3_mostWithout cX3_mostWithout 4 (Option.some Jvm.ClassFile.FieldType.int) :: lw_g) B.pre w (List.mem_cons_of_mem _ hw)
  have hown : s.vm.findClass RX3 = some m.cls := findClass_of_methodNamed B.named
  have hlocks := B.notSynchronized
  have hD := hD0.self (sz := s.heap.size)
  generalize hAe : va_A ((wX3 f n cI cC cO S N) ++ (wX1 b cI cC cO O)) s.heap.size = A at hD ⊢
  have hA : ∀ q : Nat, s.heap.size ≤ q → A q := fun q hq => by rw [← hAe]; exact Or.inr hq
  have hS : va_S A s.heap s.heap [] := va_S.rf
  have hl := lv_entry ([.ref (f 0), .ref (b 0), .int x2, .int x3]) (n := 4) (Nat.le_of_ble_eq_true rfl)
  rw [lg_entry_eq]
  generalize (lg_sl ([.ref (f 0), .ref (b 0), .int x2, .int x3]) ++ List.replicate (4 - (lg_sl ([.ref (f 0), .ref (b 0), .int x2, .int x3])).length) Slot.unset).toArray = ls at hl ⊢
  have hl : lv_has ls 4 [(0, .ref (f 0)), (1, .ref (b 0)), (2, .int x2), (3, .int x3)] := hl
  unfold F_X3_mostWithout at h
  refine lv_aload_n hx hb dX3_mostWithout_0 rfl (lv_at hl 0 rfl) ?_
  refine va_get (D := D) (ci := 3) (v := .ref (n 0)) (C := RX3) (T := TX3) (N := 7) hx hb ht i_X3 hown hK hP 0 rfl rfl 0 (by decide) (ht _ wd_75) (fun _ h9 => h9) rfl dX3_mostWithout_1 ?_
  refine lv_aload_n hx hb dX3_mostWithout_4 rfl (lv_at hl 1 rfl) ?_
  obtain ⟨N1, e2, h⟩ := b1_ok h
  refine cl_Vv (ws' := ((wX3 f n cI cC cO S N1) ++ (wX1 b cI cC cO O))) ⟨hx, hb, hml, hown, ht⟩ (c_X1_copyFrom l D cI cC cO n b N O _ _ e2) (cwv 1 ht wd_179 wd_2 wd_283 wd_177 wd_178 (by decide +kernel) rfl rfl ⟨Nat.le_of_ble_eq_true rfl, Nat.le_of_ble_eq_true rfl⟩) 1 0 rfl rfl rfl hK hP hD hS hA hN [5, 6, 7, 8, 9, 10, 11, 12] [0, 1, 2, 3, 4] [0, 1, 2, 3, 4, 5, 6, 7, 8, 9, 10, 11, 12] (by decide) rfl rfl (by decide) (by decide) rfl (by decide) rfl hl.1 rfl (Nat.le_of_ble_eq_true rfl) dX3_mostWithout_5 ⟨Nat.le_of_ble_eq_true rfl, Nat.le_of_ble_eq_true rfl⟩ (fun H locs hP hD hS => ?_)
  refine lv_aload_n hx hb dX3_mostWithout_8 rfl (lv_at hl 0 rfl) ?_
  refine va_get (D := D) (ci := 3) (v := .ref (n 0)) (C := RX3) (T := TX3) (N := 7) hx hb ht i_X3 hown hK hP 0 rfl rfl 0 (by decide) (ht _ wd_75) (fun _ h9 => h9) rfl dX3_mostWithout_9 ?_
  refine lv_iload_n hx hb dX3_mostWithout_12 rfl (lv_at hl 2 rfl) ?_
  refine lv_iconst (v := (3 : Int32)) hx hb dX3_mostWithout_13 (by decide) ?_
  refine lv_iconst (v := (0 : Int32)) hx hb dX3_mostWithout_14 (by decide) ?_
  obtain ⟨N3, e4, h⟩ := b1_ok h
  refine cl_Vv (ws' := ((wX3 f n cI cC cO S N3) ++ (wX1 b cI cC cO O))) ⟨hx, hb, hml, hown, ht⟩ (c_X1_setPart l D cI cC cO n N1 x2 (3 : Int32) (0 : Int32) _ _ e4) (cwv 3 ht wd_210 wd_2 wd_412 wd_208 wd_209 (by decide +kernel) rfl rfl ⟨Nat.le_of_ble_eq_true rfl, Nat.le_of_ble_eq_true rfl⟩) 1 0 rfl rfl rfl hK hP hD hS hA hN [5, 6, 7, 8] [0, 1, 2, 3, 4, 9, 10, 11, 12] [0, 1, 2, 3, 4, 9, 10, 11, 12, 5, 6, 7, 8] (by decide) rfl rfl (by decide) (by decide) rfl (by decide) rfl hl.1 rfl (Nat.le_of_ble_eq_true rfl) dX3_mostWithout_15 ⟨Nat.le_of_ble_eq_true rfl, Nat.le_of_ble_eq_true rfl⟩ (fun H locs hP hD hS => ?_)
  refine lv_aload_n hx hb dX3_mostWithout_18 rfl (lv_at hl 0 rfl) ?_
  refine lv_iload_n hx hb dX3_mostWithout_19 rfl (lv_at hl 3 rfl) ?_
  obtain ⟨u5, S6, e7, h⟩ := b2_ok h
  refine cl_Vi (ws' := ((wX3 f n cI cC cO S6 N3) ++ (wX1 b cI cC cO O))) ⟨hx, hb, hml, hown, ht⟩ (c_X3_mostBy l D cI cC cO f n S N3 x3 _ _ e7) (cwv 1 ht wd_353 wd_4 wd_350 wd_352 ws_9 (by decide +kernel) rfl rfl ⟨Nat.le_of_ble_eq_true rfl, Nat.le_of_ble_eq_true rfl⟩) 3 0 rfl rfl rfl hK hP hD hS hA hN [0, 1, 2, 3, 4, 5, 6, 7, 8] [9, 10, 11, 12] [4, 5, 6, 7, 8, 9, 10, 11, 12, 0, 1, 2, 3] (by decide) rfl rfl (by decide) (by decide) rfl (by decide) rfl hl.1 rfl (Nat.le_of_ble_eq_true rfl) dX3_mostWithout_20 ⟨Nat.le_of_ble_eq_true rfl, Nat.le_of_ble_eq_true rfl⟩ (fun H locs hP hD hS => ?_)
  cases h
  exact rt_i hx hb hr hlocks hS hP hK hD dX3_mostWithout_23
