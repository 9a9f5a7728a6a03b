theorem dX5_helpful_0 : decode cX5_helpful 0 = .ok (.iload_n 1, 1) := by decide +kernel
theorem dX5_helpful_1 : decode cX5_helpful 1 = .ok (.iconst 0, 1) := by decide +kernel
theorem dX5_helpful_2 : decode cX5_helpful 2 = .ok (.bipush 15, 2) := by decide +kernel
theorem dX5_helpful_4 : decode cX5_helpful 4 = .ok (.invokestatic 63, 3) := by decide +kernel
theorem dX5_helpful_7 : decode cX5_helpful 7 = .ok (.ifCond .eq 12, 3) := by decide +kernel
theorem dX5_helpful_10 : decode cX5_helpful 10 = .ok (.iload_n 2, 1) := by decide +kernel
theorem dX5_helpful_11 : decode cX5_helpful 11 = .ok (.iconst 0, 1) := by decide +kernel
theorem dX5_helpful_12 : decode cX5_helpful 12 = .ok (.iconst 1, 1) := by decide +kernel
theorem dX5_helpful_13 : decode cX5_helpful 13 = .ok (.invokestatic 63, 3) := by decide +kernel
theorem dX5_helpful_16 : decode cX5_helpful 16 = .ok (.ifCond .ne 6, 3) := by decide +kernel
theorem dX5_helpful_19 : decode cX5_helpful 19 = .ok (.ldc 67, 2) := by decide +kernel
theorem dX5_helpful_21 : decode cX5_helpful 21 = .ok (.ireturn, 1) := by decide +kernel
theorem dX5_helpful_22 : decode cX5_helpful 22 = .ok (.aload_n 0, 1) := by decide +kernel
theorem dX5_helpful_23 : decode cX5_helpful 23 = .ok (.iload_n 1, 1) := by decide +kernel
theorem dX5_helpful_24 : decode cX5_helpful 24 = .ok (.invokevirtual 143, 3) := by decide +kernel
theorem dX5_helpful_27 : decode cX5_helpful 27 = .ok (.istore_n 3, 1) := by decide +kernel
theorem dX5_helpful_28 : decode cX5_helpful 28 = .ok (.ldc 104, 2) := by decide +kernel
theorem dX5_helpful_30 : decode cX5_helpful 30 = .ok (.istore 4, 2) := by decide +kernel
theorem dX5_helpful_32 : decode cX5_helpful 32 = .ok (.iconst 0, 1) := by decide +kernel
theorem dX5_helpful_33 : decode cX5_helpful 33 = .ok (.istore 5, 2) := by decide +kernel
theorem dX5_helpful_35 : decode cX5_helpful 35 = .ok (.iconst 0, 1) := by decide +kernel
theorem dX5_helpful_36 : decode cX5_helpful 36 = .ok (.istore 6, 2) := by decide +kernel
theorem dX5_helpful_38 : decode cX5_helpful 38 = .ok (.iload 6, 2) := by decide +kernel
theorem dX5_helpful_40 : decode cX5_helpful 40 = .ok (.aload_n 0, 1) := by decide +kernel
theorem dX5_helpful_41 : decode cX5_helpful 41 = .ok (.getfield 7, 3) := by decide +kernel
theorem dX5_helpful_44 : decode cX5_helpful 44 = .ok (.iconst 1, 1) := by decide +kernel
theorem dX5_helpful_45 : decode cX5_helpful 45 = .ok (.iaload, 1) := by decide +kernel
theorem dX5_helpful_46 : decode cX5_helpful 46 = .ok (.if_icmp .ge 56, 3) := by decide +kernel
theorem dX5_helpful_49 : decode cX5_helpful 49 = .ok (.aload_n 0, 1) := by decide +kernel
theorem dX5_helpful_50 : decode cX5_helpful 50 = .ok (.iload 6, 2) := by decide +kernel
theorem dX5_helpful_52 : decode cX5_helpful 52 = .ok (.putfield 54, 3) := by decide +kernel
theorem dX5_helpful_55 : decode cX5_helpful 55 = .ok (.aload_n 0, 1) := by decide +kernel
theorem dX5_helpful_56 : decode cX5_helpful 56 = .ok (.iload_n 1, 1) := by decide +kernel
theorem dX5_helpful_57 : decode cX5_helpful 57 = .ok (.invokevirtual 143, 3) := by decide +kernel
theorem dX5_helpful_60 : decode cX5_helpful 60 = .ok (.iload_n 3, 1) := by decide +kernel
theorem dX5_helpful_61 : decode cX5_helpful 61 = .ok (.isub, 1) := by decide +kernel
theorem dX5_helpful_62 : decode cX5_helpful 62 = .ok (.istore 7, 2) := by decide +kernel
theorem dX5_helpful_64 : decode cX5_helpful 64 = .ok (.iload 7, 2) := by decide +kernel
theorem dX5_helpful_66 : decode cX5_helpful 66 = .ok (.iload 5, 2) := by decide +kernel
theorem dX5_helpful_68 : decode cX5_helpful 68 = .ok (.if_icmp .le 8, 3) := by decide +kernel
theorem dX5_helpful_71 : decode cX5_helpful 71 = .ok (.iload 6, 2) := by decide +kernel
theorem dX5_helpful_73 : decode cX5_helpful 73 = .ok (.goto 5, 3) := by decide +kernel
theorem dX5_helpful_76 : decode cX5_helpful 76 = .ok (.iload 4, 2) := by decide +kernel
theorem dX5_helpful_78 : decode cX5_helpful 78 = .ok (.istore 4, 2) := by decide +kernel
theorem dX5_helpful_80 : decode cX5_helpful 80 = .ok (.iload 7, 2) := by decide +kernel
theorem dX5_helpful_82 : decode cX5_helpful 82 = .ok (.iload 5, 2) := by decide +kernel
theorem dX5_helpful_84 : decode cX5_helpful 84 = .ok (.if_icmp .le 8, 3) := by decide +kernel
theorem dX5_helpful_87 : decode cX5_helpful 87 = .ok (.iload 7, 2) := by decide +kernel
theorem dX5_helpful_89 : decode cX5_helpful 89 = .ok (.goto 5, 3) := by decide +kernel
theorem dX5_helpful_92 : decode cX5_helpful 92 = .ok (.iload 5, 2) := by decide +kernel
theorem dX5_helpful_94 : decode cX5_helpful 94 = .ok (.istore 5, 2) := by decide +kernel
theorem dX5_helpful_96 : decode cX5_helpful 96 = .ok (.iinc 6 1, 3) := by decide +kernel
theorem dX5_helpful_99 : decode cX5_helpful 99 = .ok (.goto (-61), 3) := by decide +kernel
theorem dX5_helpful_102 : decode cX5_helpful 102 = .ok (.aload_n 0, 1) := by decide +kernel
theorem dX5_helpful_103 : decode cX5_helpful 103 = .ok (.invokevirtual 47, 3) := by decide +kernel
theorem dX5_helpful_106 : decode cX5_helpful 106 = .ok (.iload_n 2, 1) := by decide +kernel
theorem dX5_helpful_107 : decode cX5_helpful 107 = .ok (.ifCond .eq 8, 3) := by decide +kernel
theorem dX5_helpful_110 : decode cX5_helpful 110 = .ok (.iload 4, 2) := by decide +kernel
theorem dX5_helpful_112 : decode cX5_helpful 112 = .ok (.ifCond .ge 8, 3) := by decide +kernel
theorem dX5_helpful_115 : decode cX5_helpful 115 = .ok (.iload 4, 2) := by decide +kernel
theorem dX5_helpful_117 : decode cX5_helpful 117 = .ok (.goto 5, 3) := by decide +kernel
theorem dX5_helpful_120 : decode cX5_helpful 120 = .ok (.iload 5, 2) := by decide +kernel
theorem dX5_helpful_122 : decode cX5_helpful 122 = .ok (.ireturn, 1) := by decide +kernel
set_option maxHeartbeats 4000000 in
set_option maxRecDepth 100000 in
theorem c_X5_helpful (l : Launch) (D : va_G) (cI cC cO : ClassId) (a : Nat → Nat) (M : Mm) (x1 x2 : Int32) (res : Int32 × Mm) (sz : Nat) (h : F_X5_helpful M x1 x2 = some res) : Met l yX5_helpful (Cond.code yX5_helpful cX5_helpful 8 (Option.some Jvm.ClassFile.FieldType.int) :: lw_g) ({ frames := 5, cells := 0, slots := 0, locals := 114 } : Room) (va_Pc [.ref (a 0), .int x1, .int x2] (pS D cI cC cO sz (wX5 a cI cC cO M))) (QI D cI cC cO (va_A (wX5 a cI cC cO M) sz) (wX5 a cI cC cO res.2) res.1) 0 0 (va_A (wX5 a cI cC cO M) sz) := by
  refine Met.ofW (cc := cX5_helpful) (maxL := 8) (ret := (Option.some Jvm.ClassFile.FieldType.int)) (by decide) rfl ?_
  intro p e s m args below meth c s₁ B hml hv
  obtain ⟨rfl, rfl, hP, hK, hD0, hN⟩ := hv
  have hx := B.exec
  have hb := B.bytes
  have hr := B.returns
  have ht : ∀ w ∈ lw_g, w.before ([.ref (a 0), .int x1, .int x2] : List Value).toArray s = true := fun w hw => atoms_spec (ws := Cond.code yX5_helpful cX5_helpful 8 (Option.some Jvm.ClassFile.FieldType.int) :: lw_g) B.pre w (List.mem_cons_of_mem _ hw)
  have hown : s.vm.findClass RX5 = some m.cls := findClass_of_methodNamed B.named
  have hlocks := B.notSynchronized
  have hD := hD0.self (sz := s.heap.size)
  generalize hAe : va_A (wX5 a cI cC cO M) s.heap.size = A at hD ⊢
  have hA : ∀ q : Nat, s.heap.size ≤ q → A q := fun q hq => by rw [← hAe]; exact Or.inr hq
  have hS : va_S A s.heap s.heap [] := va_S.rf
  have hl := lv_entry ([.ref (a 0), .int x1, .int x2]) (n := 8) (Nat.le_of_ble_eq_true rfl)
  rw [lg_entry_eq]
  generalize (lg_sl ([.ref (a 0), .int x1, .int x2]) ++ List.replicate (8 - (lg_sl ([.ref (a 0), .int x1, .int x2])).length) Slot.unset).toArray = ls at hl ⊢
  have hl : lv_has ls 8 [(0, .ref (a 0)), (1, .int x1), (2, .int x2)] := hl
  have w38 : ∀ (n38 : Nat) (M : Mm) (y1 y2 y3 y4 y5 y6 : Int32) (H : Heap) (locs : List Loc) (ls : Array Slot), F_X5_helpful_38 n38 M y1 y2 y3 y4 y5 y6 = some res → va_P D classes (wX5 a cI cC cO M) H → va_D A (wX5 a cI cC cO M) → va_S A s.heap H locs → lv_has ls 8 [(0, .ref (a 0)), (1, .int y1), (2, .int y2), (3, .int y3), (4, .int y4), (5, .int y5), (6, .int y6)] → W p l e ({ frames := 5, cells := 0, slots := 0, locals := 114 } : Room) s m ([.ref (a 0), .int x1, .int x2] : List Value).toArray below meth c H locs 0 0 (MQ below (QI D cI cC cO A (wX5 a cI cC cO res.2) res.1) ([.ref (a 0), .int x1, .int x2] : List Value).toArray s 0 0 A) (F0 m 38 ls []) := by
    intro n38
    induction n38 with
    | zero => intro M y1 y2 y3 y4 y5 y6 H locs ls h hP hD hS hl; exact absurd (show (none : Option (Int32 × Mm)) = some res from h) (by simp)
    | succ n38 ih38 =>
      have w78 : ∀ (M : Mm) (y1 y2 y3 y5 y6 y7 s0 : Int32) (H : Heap) (locs : List Loc) (ls : Array Slot), F_X5_helpful_78 (F_X5_helpful_38 n38) M y1 y2 y3 y5 y6 y7 s0 = some res → va_P D classes (wX5 a cI cC cO M) H → va_D A (wX5 a cI cC cO M) → va_S A s.heap H locs → lv_has ls 8 [(0, .ref (a 0)), (1, .int y1), (2, .int y2), (3, .int y3), (5, .int y5), (6, .int y6), (7, .int y7)] → W p l e ({ frames := 5, cells := 0, slots := 0, locals := 114 } : Room) s m ([.ref (a 0), .int x1, .int x2] : List Value).toArray below meth c H locs 0 0 (MQ below (QI D cI cC cO A (wX5 a cI cC cO res.2) res.1) ([.ref (a 0), .int x1, .int x2] : List Value).toArray s 0 0 A) (F0 m 78 ls [.int s0]) := by
        intro M y1 y2 y3 y5 y6 y7 s0 H locs ls h hP hD hS hl
        unfold F_X5_helpful_78 at h
        refine lv_istore (lv' := [(4, .int s0), (0, .ref (a 0)), (1, .int y1), (2, .int y2), (3, .int y3), (5, .int y5), (6, .int y6), (7, .int y7)]) hx hb dX5_helpful_78 hl (by decide) rfl (fun ls hl => ?_)
        refine lv_iload hx hb dX5_helpful_80 (lv_at hl 7 rfl) ?_
        refine lv_iload hx hb dX5_helpful_82 (lv_at hl 5 rfl) ?_
        refine lv_icmp_le (tgt := 92) hx hb dX5_helpful_84 (by decide) (fun c1 => ?_) (fun c1 => ?_)
        · replace h := fp c1 h
          refine lv_iload hx hb dX5_helpful_92 (lv_at hl 5 rfl) ?_
          refine lv_istore (lv' := [(5, .int y5), (4, .int s0), (0, .ref (a 0)), (1, .int y1), (2, .int y2), (3, .int y3), (6, .int y6), (7, .int y7)]) hx hb dX5_helpful_94 hl (by decide) rfl (fun ls hl => ?_)
          refine lv_iinc (v := (y6 + 1)) (lv' := [(6, .int (y6 + 1)), (5, .int y5), (4, .int s0), (0, .ref (a 0)), (1, .int y1), (2, .int y2), (3, .int y3), (7, .int y7)]) hx hb dX5_helpful_96 hl (k := 6) rfl rfl (by decide) rfl (fun ls hl => ?_)
          refine lv_goto (tgt := 38) hx hb dX5_helpful_99 (by decide) ?_
          exact ih38 M y1 y2 y3 s0 y5 (y6 + 1) _ _ ls h hP hD hS (lv_sub hl [3, 4, 5, 6, 2, 1, 0] rfl)
        · replace h := fn c1 h
          refine lv_iload hx hb dX5_helpful_87 (lv_at hl 7 rfl) ?_
          refine lv_goto (tgt := 94) hx hb dX5_helpful_89 (by decide) ?_
          refine lv_istore (lv' := [(5, .int y7), (4, .int s0), (0, .ref (a 0)), (1, .int y1), (2, .int y2), (3, .int y3), (6, .int y6), (7, .int y7)]) hx hb dX5_helpful_94 hl (by decide) rfl (fun ls hl => ?_)
          refine lv_iinc (v := (y6 + 1)) (lv' := [(6, .int (y6 + 1)), (5, .int y7), (4, .int s0), (0, .ref (a 0)), (1, .int y1), (2, .int y2), (3, .int y3), (7, .int y7)]) hx hb dX5_helpful_96 hl (k := 6) rfl rfl (by decide) rfl (fun ls hl => ?_)
          refine lv_goto (tgt := 38) hx hb dX5_helpful_99 (by decide) ?_
          exact ih38 M y1 y2 y3 s0 y7 (y6 + 1) _ _ ls h hP hD hS (lv_sub hl [3, 4, 5, 6, 2, 1, 0] rfl)
      intro M y1 y2 y3 y4 y5 y6 H locs ls h hP hD hS hl
      have h : F_X5_helpfulB_38 (F_X5_helpful_38 n38) M y1 y2 y3 y4 y5 y6 = some res := h
      unfold F_X5_helpfulB_38 at h
      refine lv_iload hx hb dX5_helpful_38 (lv_at hl 6 rfl) ?_
      refine lv_aload_n hx hb dX5_helpful_40 rfl (lv_at hl 0 rfl) ?_
      refine va_get (D := D) (ci := 5) (v := .ref (a 1)) (C := RX5) (T := TX5) (N := 23) hx hb ht i_X5 hown hK hP 0 rfl rfl 0 (by decide) (ht _ wd_536) (fun _ h9 => h9) rfl dX5_helpful_41 ?_
      refine lv_iconst (v := (1 : Int32)) hx hb dX5_helpful_44 (by decide) ?_
      obtain ⟨i1, h⟩ := ck_ok h
      refine va_iald hx hb hK hP 1 0 rfl rfl i1 dX5_helpful_45 ?_
      refine lv_icmp_ge (tgt := 102) hx hb dX5_helpful_46 (by decide) (fun c2 => ?_) (fun c2 => ?_)
      · replace h := fp c2 h
        refine lv_aload_n hx hb dX5_helpful_102 rfl (lv_at hl 0 rfl) ?_
        obtain ⟨M3, e4, h⟩ := b1_ok h
        refine cl_Vv (ws' := (wX5 a cI cC cO M3)) ⟨hx, hb, hml, hown, ht⟩ (c_X5_asIs l D cI cC cO a M _ _ e4) (cwv 0 ht wd_535 wd_6 wd_532 wd_534 ws_19 (by decide +kernel) rfl rfl ⟨Nat.le_of_ble_eq_true rfl, Nat.le_of_ble_eq_true rfl⟩) 5 0 rfl rfl rfl hK hP hD hS hA hN [0, 1, 2, 3, 4, 5, 6, 7, 8, 9, 10, 11, 12] [] [0, 1, 2, 3, 4, 5, 6, 7, 8, 9, 10, 11, 12] (by decide) rfl rfl (by decide) (by decide) rfl (by decide) rfl hl.1 rfl (Nat.le_of_ble_eq_true rfl) dX5_helpful_103 ⟨Nat.le_of_ble_eq_true rfl, Nat.le_of_ble_eq_true rfl⟩ (fun H locs hP hD hS => ?_)
        refine lv_iload_n hx hb dX5_helpful_106 rfl (lv_at hl 2 rfl) ?_
        refine lv_if_eq (tgt := 115) hx hb dX5_helpful_107 (by decide) (fun c5 => ?_) (fun c5 => ?_)
        · replace h := fp c5 h
          refine lv_iload hx hb dX5_helpful_115 (lv_at hl 4 rfl) ?_
          refine lv_goto (tgt := 122) hx hb dX5_helpful_117 (by decide) ?_
          cases h
          exact rt_i hx hb hr hlocks hS hP hK hD dX5_helpful_122
        · replace h := fn c5 h
          refine lv_iload hx hb dX5_helpful_110 (lv_at hl 4 rfl) ?_
          refine lv_if_ge (tgt := 120) hx hb dX5_helpful_112 (by decide) (fun c6 => ?_) (fun c6 => ?_)
          · replace h := fp c6 h
            refine lv_iload hx hb dX5_helpful_120 (lv_at hl 5 rfl) ?_
            cases h
            exact rt_i hx hb hr hlocks hS hP hK hD dX5_helpful_122
          · replace h := fn c6 h
            refine lv_iload hx hb dX5_helpful_115 (lv_at hl 4 rfl) ?_
            refine lv_goto (tgt := 122) hx hb dX5_helpful_117 (by decide) ?_
            cases h
            exact rt_i hx hb hr hlocks hS hP hK hD dX5_helpful_122
      · replace h := fn c2 h
        refine lv_aload_n hx hb dX5_helpful_49 rfl (lv_at hl 0 rfl) ?_
        refine lv_iload hx hb dX5_helpful_50 (lv_at hl 6 rfl) ?_
        refine va_put (D := D) (ci := 5) (v := .int y6) (ty := .int) (C := RX5) (T := TX5) (N := 23) hx hb ht i_X5 tyX5 tyX5_ok nmX5 hown hK hP hD hS 0 rfl rfl 20 (by decide) (ht _ wd_556) (fun _ h9 => h9) rfl (by decide +kernel) rfl rfl (Nat.le_of_ble_eq_true rfl) dX5_helpful_52 (fun H locs hP hD hS => ?_)
        obtain ⟨M7, e8, h⟩ := sv_ok h
        have hP : va_P D classes (wX5 a cI cC cO M7) H := by rw [← e8]; exact hP
        have hD : va_D A (wX5 a cI cC cO M7) := by rw [← e8]; exact hD
        refine lv_aload_n hx hb dX5_helpful_55 rfl (lv_at hl 0 rfl) ?_
        refine lv_iload_n hx hb dX5_helpful_56 rfl (lv_at hl 1 rfl) ?_
        obtain ⟨u9, M10, e11, h⟩ := b2_ok h
        refine cl_Vi (ws' := (wX5 a cI cC cO M10)) ⟨hx, hb, hml, hown, ht⟩ (c_X5_comes l D cI cC cO a M7 y1 _ _ e11) (cwv 1 ht wd_699 wd_6 wd_696 wd_698 ws_31 (by decide +kernel) rfl rfl ⟨Nat.le_of_ble_eq_true rfl, Nat.le_of_ble_eq_true rfl⟩) 5 0 rfl rfl rfl hK hP hD hS hA hN [0, 1, 2, 3, 4, 5, 6, 7, 8, 9, 10, 11, 12] [] [0, 1, 2, 3, 4, 5, 6, 7, 8, 9, 10, 11, 12] (by decide) rfl rfl (by decide) (by decide) rfl (by decide) rfl hl.1 rfl (Nat.le_of_ble_eq_true rfl) dX5_helpful_57 ⟨Nat.le_of_ble_eq_true rfl, Nat.le_of_ble_eq_true rfl⟩ (fun H locs hP hD hS => ?_)
        refine lv_iload_n hx hb dX5_helpful_60 rfl (lv_at hl 3 rfl) ?_
        refine lv_isub hx hb dX5_helpful_61 ?_
        refine lv_istore (lv' := [(7, .int (u9 - y3)), (0, .ref (a 0)), (1, .int y1), (2, .int y2), (3, .int y3), (4, .int y4), (5, .int y5), (6, .int y6)]) hx hb dX5_helpful_62 hl (by decide) rfl (fun ls hl => ?_)
        refine lv_iload hx hb dX5_helpful_64 (lv_at hl 0 rfl) ?_
        refine lv_iload hx hb dX5_helpful_66 (lv_at hl 6 rfl) ?_
        refine lv_icmp_le (tgt := 76) hx hb dX5_helpful_68 (by decide) (fun c12 => ?_) (fun c12 => ?_)
        · replace h := fp c12 h
          refine lv_iload hx hb dX5_helpful_76 (lv_at hl 5 rfl) ?_
          exact w78 M10 y1 y2 y3 y5 y6 (u9 - y3) y4 _ _ ls h hP hD hS (lv_sub hl [1, 2, 3, 4, 6, 7, 0] rfl)
        · replace h := fn c12 h
          refine lv_iload hx hb dX5_helpful_71 (lv_at hl 7 rfl) ?_
          refine lv_goto (tgt := 78) hx hb dX5_helpful_73 (by decide) ?_
          exact w78 M10 y1 y2 y3 y5 y6 (u9 - y3) y6 _ _ ls h hP hD hS (lv_sub hl [1, 2, 3, 4, 6, 7, 0] rfl)
  unfold F_X5_helpful at h
  refine lv_iload_n hx hb dX5_helpful_0 rfl (lv_at hl 1 rfl) ?_
  refine lv_iconst (v := (0 : Int32)) hx hb dX5_helpful_1 (by decide) ?_
  refine lv_bipush (v := (15 : Int32)) hx hb dX5_helpful_2 (by decide) ?_
  obtain ⟨u1, e2, h⟩ := b1_ok h
  refine cl_Si (ws' := (wX5 a cI cC cO M)) ⟨hx, hb, hml, hown, ht⟩ (c_X5_in l D cI cC cO x1 (0 : Int32) (15 : Int32) _ _ e2) (cwst 3 ht wd_612 wd_6 wd_610 wd_611 (by decide +kernel) rfl rfl ⟨Nat.le_of_ble_eq_true rfl, Nat.le_of_ble_eq_true rfl⟩) hK hP hD hS hA hN [] [0, 1, 2, 3, 4, 5, 6, 7, 8, 9, 10, 11, 12] [0, 1, 2, 3, 4, 5, 6, 7, 8, 9, 10, 11, 12] (by decide) rfl rfl (by decide) (by decide) rfl (by decide) rfl hl.1 rfl (Nat.le_of_ble_eq_true rfl) dX5_helpful_4 ⟨Nat.le_of_ble_eq_true rfl, Nat.le_of_ble_eq_true rfl⟩ (fun H locs hP hD hS => ?_)
  refine lv_if_eq (tgt := 19) hx hb dX5_helpful_7 (by decide) (fun c3 => ?_) (fun c3 => ?_)
  · replace h := fp c3 h
    refine lv_ldc hx hb hown (ht _ wd_613) dX5_helpful_19 ?_
    cases h
    exact rt_i hx hb hr hlocks hS hP hK hD dX5_helpful_21
  · replace h := fn c3 h
    refine lv_iload_n hx hb dX5_helpful_10 rfl (lv_at hl 2 rfl) ?_
    refine lv_iconst (v := (0 : Int32)) hx hb dX5_helpful_11 (by decide) ?_
    refine lv_iconst (v := (1 : Int32)) hx hb dX5_helpful_12 (by decide) ?_
    obtain ⟨u4, e5, h⟩ := b1_ok h
    refine cl_Si (ws' := (wX5 a cI cC cO M)) ⟨hx, hb, hml, hown, ht⟩ (c_X5_in l D cI cC cO x2 (0 : Int32) (1 : Int32) _ _ e5) (cwst 3 ht wd_612 wd_6 wd_610 wd_611 (by decide +kernel) rfl rfl ⟨Nat.le_of_ble_eq_true rfl, Nat.le_of_ble_eq_true rfl⟩) hK hP hD hS hA hN [] [0, 1, 2, 3, 4, 5, 6, 7, 8, 9, 10, 11, 12] [0, 1, 2, 3, 4, 5, 6, 7, 8, 9, 10, 11, 12] (by decide) rfl rfl (by decide) (by decide) rfl (by decide) rfl hl.1 rfl (Nat.le_of_ble_eq_true rfl) dX5_helpful_13 ⟨Nat.le_of_ble_eq_true rfl, Nat.le_of_ble_eq_true rfl⟩ (fun H locs hP hD hS => ?_)
    refine lv_if_ne (tgt := 22) hx hb dX5_helpful_16 (by decide) (fun c6 => ?_) (fun c6 => ?_)
    · replace h := fn c6 h
      refine lv_aload_n hx hb dX5_helpful_22 rfl (lv_at hl 0 rfl) ?_
      refine lv_iload_n hx hb dX5_helpful_23 rfl (lv_at hl 1 rfl) ?_
      obtain ⟨u7, M8, e9, h⟩ := b2_ok h
      refine cl_Vi (ws' := (wX5 a cI cC cO M8)) ⟨hx, hb, hml, hown, ht⟩ (c_X5_comes l D cI cC cO a M x1 _ _ e9) (cwv 1 ht wd_699 wd_6 wd_696 wd_698 ws_31 (by decide +kernel) rfl rfl ⟨Nat.le_of_ble_eq_true rfl, Nat.le_of_ble_eq_true rfl⟩) 5 0 rfl rfl rfl hK hP hD hS hA hN [0, 1, 2, 3, 4, 5, 6, 7, 8, 9, 10, 11, 12] [] [0, 1, 2, 3, 4, 5, 6, 7, 8, 9, 10, 11, 12] (by decide) rfl rfl (by decide) (by decide) rfl (by decide) rfl hl.1 rfl (Nat.le_of_ble_eq_true rfl) dX5_helpful_24 ⟨Nat.le_of_ble_eq_true rfl, Nat.le_of_ble_eq_true rfl⟩ (fun H locs hP hD hS => ?_)
      refine lv_istore_n (lv' := [(3, .int u7), (0, .ref (a 0)), (1, .int x1), (2, .int x2)]) hx hb dX5_helpful_27 rfl hl (by decide) rfl (fun ls hl => ?_)
      refine lv_ldc hx hb hown (ht _ wd_691) dX5_helpful_28 ?_
      refine lv_istore (lv' := [(4, .int (-1000004 : Int32)), (3, .int u7), (0, .ref (a 0)), (1, .int x1), (2, .int x2)]) hx hb dX5_helpful_30 hl (by decide) rfl (fun ls hl => ?_)
      refine lv_iconst (v := (0 : Int32)) hx hb dX5_helpful_32 (by decide) ?_
      refine lv_istore (lv' := [(5, .int (0 : Int32)), (4, .int (-1000004 : Int32)), (3, .int u7), (0, .ref (a 0)), (1, .int x1), (2, .int x2)]) hx hb dX5_helpful_33 hl (by decide) rfl (fun ls hl => ?_)
      refine lv_iconst (v := (0 : Int32)) hx hb dX5_helpful_35 (by decide) ?_
      refine lv_istore (lv' := [(6, .int (0 : Int32)), (5, .int (0 : Int32)), (4, .int (-1000004 : Int32)), (3, .int u7), (0, .ref (a 0)), (1, .int x1), (2, .int x2)]) hx hb dX5_helpful_36 hl (by decide) rfl (fun ls hl => ?_)
      exact w38 FU M8 x1 x2 u7 (-1000004 : Int32) (0 : Int32) (0 : Int32) _ _ ls h hP hD hS (lv_sub hl [4, 5, 6, 3, 2, 1, 0] rfl)
    · replace h := fp c6 h
      refine lv_ldc hx hb hown (ht _ wd_613) dX5_helpful_19 ?_
      cases h
      exact rt_i hx hb hr hlocks hS hP hK hD dX5_helpful_21
theorem dX5_withOneMore_0 : decode cX5_withOneMore 0 = .ok (.iload_n 1, 1) := by decide +kernel
theorem dX5_withOneMore_1 : decode cX5_withOneMore 1 = .ok (.iconst 0, 1) := by decide +kernel
theorem dX5_withOneMore_2 : decode cX5_withOneMore 2 = .ok (.bipush 15, 2) := by decide +kernel
theorem dX5_withOneMore_4 : decode cX5_withOneMore 4 = .ok (.invokestatic 63, 3) := by decide +kernel
theorem dX5_withOneMore_7 : decode cX5_withOneMore 7 = .ok (.ifCond .eq 11, 3) := by decide +kernel
theorem dX5_withOneMore_10 : decode cX5_withOneMore 10 = .ok (.aload_n 0, 1) := by decide +kernel
theorem dX5_withOneMore_11 : decode cX5_withOneMore 11 = .ok (.iload_n 2, 1) := by decide +kernel
theorem dX5_withOneMore_12 : decode cX5_withOneMore 12 = .ok (.invokevirtual 83, 3) := by decide +kernel
theorem dX5_withOneMore_15 : decode cX5_withOneMore 15 = .ok (.ifCond .ne 6, 3) := by decide +kernel
theorem dX5_withOneMore_18 : decode cX5_withOneMore 18 = .ok (.ldc 67, 2) := by decide +kernel
theorem dX5_withOneMore_20 : decode cX5_withOneMore 20 = .ok (.ireturn, 1) := by decide +kernel
theorem dX5_withOneMore_21 : decode cX5_withOneMore 21 = .ok (.aload_n 0, 1) := by decide +kernel
theorem dX5_withOneMore_22 : decode cX5_withOneMore 22 = .ok (.iload_n 2, 1) := by decide +kernel
theorem dX5_withOneMore_23 : decode cX5_withOneMore 23 = .ok (.putfield 57, 3) := by decide +kernel
theorem dX5_withOneMore_26 : decode cX5_withOneMore 26 = .ok (.aload_n 0, 1) := by decide +kernel
theorem dX5_withOneMore_27 : decode cX5_withOneMore 27 = .ok (.iload_n 1, 1) := by decide +kernel
theorem dX5_withOneMore_28 : decode cX5_withOneMore 28 = .ok (.invokevirtual 143, 3) := by decide +kernel
theorem dX5_withOneMore_31 : decode cX5_withOneMore 31 = .ok (.istore_n 3, 1) := by decide +kernel
theorem dX5_withOneMore_32 : decode cX5_withOneMore 32 = .ok (.aload_n 0, 1) := by decide +kernel
theorem dX5_withOneMore_33 : decode cX5_withOneMore 33 = .ok (.invokevirtual 47, 3) := by decide +kernel
theorem dX5_withOneMore_36 : decode cX5_withOneMore 36 = .ok (.iload_n 3, 1) := by decide +kernel
theorem dX5_withOneMore_37 : decode cX5_withOneMore 37 = .ok (.ireturn, 1) := by decide +kernel
set_option maxHeartbeats 4000000 in
set_option maxRecDepth 100000 in
theorem c_X5_withOneMore (l : Launch) (D : va_G) (cI cC cO : ClassId) (a : Nat → Nat) (M : Mm) (x1 x2 : Int32) (res : Int32 × Mm) (sz : Nat) (h : F_X5_withOneMore M x1 x2 = some res) : Met l yX5_withOneMore (Cond.code yX5_withOneMore cX5_withOneMore 4 (Option.some Jvm.ClassFile.FieldType.int) :: lw_g) ({ frames := 5, cells := 0, slots := 0, locals := 114 } : Room) (va_Pc [.ref (a 0), .int x1, .int x2] (pS D cI cC cO sz (wX5 a cI cC cO M))) (QI D cI cC cO (va_A (wX5 a cI cC cO M) sz) (wX5 a cI cC cO res.2) res.1) 0 0 (va_A (wX5 a cI cC cO M) sz) := by
  refine Met.ofW (cc := cX5_withOneMore) (maxL := 4) (ret := (Option.some Jvm.ClassFile.FieldType.int)) (by decide) rfl ?_
  intro p e s m args below meth c s₁ B hml hv
  obtain ⟨rfl, rfl, hP, hK, hD0, hN⟩ := hv
  have hx := B.exec
  have hb := B.bytes
  have hr := B.returns
  have ht : ∀ w ∈ lw_g, w.before ([.ref (a 0), .int x1, .int x2] : List Value).toArray s = true := fun w hw => atoms_spec (ws := Cond.code yX5_withOneMore cX5_withOneMore 4 (Option.some Jvm.ClassFile.FieldType.int) :: lw_g) B.pre w (List.mem_cons_of_mem _ hw)
  have hown : s.vm.findClass RX5 = some m.cls := findClass_of_methodNamed B.named
  have hlocks := B.notSynchronized
  have hD := hD0.self (sz := s.heap.size)
  generalize hAe : va_A (wX5 a cI cC cO M) s.heap.size = A at hD ⊢
  have hA : ∀ q : Nat, s.heap.size ≤ q → A q := fun q hq => by rw [← hAe]; exact Or.inr hq
  have hS : va_S A s.heap s.heap [] := va_S.rf
  have hl := lv_entry ([.ref (a 0), .int x1, .int x2]) (n := 4) (Nat.le_of_ble_eq_true rfl)
  rw [lg_entry_eq]
  generalize (lg_sl ([.ref (a 0), .int x1, .int x2]) ++ List.replicate (4 - (lg_sl ([.ref (a 0), .int x1, .int x2])).length) Slot.unset).toArray = ls at hl ⊢
  have hl : lv_has ls 4 [(0, .ref (a 0)), (1, .int x1), (2, .int x2)] := hl
  unfold F_X5_withOneMore at h
  refine lv_iload_n hx hb dX5_withOneMore_0 rfl (lv_at hl 1 rfl) ?_
  refine lv_iconst (v := (0 : Int32)) hx hb dX5_withOneMore_1 (by decide) ?_
  refine lv_bipush (v := (15 : Int32)) hx hb dX5_withOneMore_2 (by decide) ?_
  obtain ⟨u1, e2, h⟩ := b1_ok h
  refine cl_Si (ws' := (wX5 a cI cC cO M)) ⟨hx, hb, hml, hown, ht⟩ (c_X5_in l D cI cC cO x1 (0 : Int32) (15 : Int32) _ _ e2) (cwst 3 ht wd_612 wd_6 wd_610 wd_611 (by decide +kernel) rfl rfl ⟨Nat.le_of_ble_eq_true rfl, Nat.le_of_ble_eq_true rfl⟩) hK hP hD hS hA hN [] [0, 1, 2, 3, 4, 5, 6, 7, 8, 9, 10, 11, 12] [0, 1, 2, 3, 4, 5, 6, 7, 8, 9, 10, 11, 12] (by decide) rfl rfl (by decide) (by decide) rfl (by decide) rfl hl.1 rfl (Nat.le_of_ble_eq_true rfl) dX5_withOneMore_4 ⟨Nat.le_of_ble_eq_true rfl, Nat.le_of_ble_eq_true rfl⟩ (fun H locs hP hD hS => ?_)
  refine lv_if_eq (tgt := 18) hx hb dX5_withOneMore_7 (by decide) (fun c3 => ?_) (fun c3 => ?_)
  · replace h := fp c3 h
    refine lv_ldc hx hb hown (ht _ wd_613) dX5_withOneMore_18 ?_
    cases h
    exact rt_i hx hb hr hlocks hS hP hK hD dX5_withOneMore_20
  · replace h := fn c3 h
    refine lv_aload_n hx hb dX5_withOneMore_10 rfl (lv_at hl 0 rfl) ?_
    refine lv_iload_n hx hb dX5_withOneMore_11 rfl (lv_at hl 2 rfl) ?_
    obtain ⟨u4, e5, h⟩ := b1_ok h
    refine cl_Vi (ws' := (wX5 a cI cC cO M)) ⟨hx, hb, hml, hown, ht⟩ (c_X5_isPlace l D cI cC cO a M x2 _ _ e5) (cwv 1 ht wd_634 wd_6 wd_631 wd_633 ws_23 (by decide +kernel) rfl rfl ⟨Nat.le_of_ble_eq_true rfl, Nat.le_of_ble_eq_true rfl⟩) 5 0 rfl rfl rfl hK hP hD hS hA hN [0, 1, 2, 3, 4, 5, 6, 7, 8, 9, 10, 11, 12] [] [0, 1, 2, 3, 4, 5, 6, 7, 8, 9, 10, 11, 12] (by decide) rfl rfl (by decide) (by decide) rfl (by decide) rfl hl.1 rfl (Nat.le_of_ble_eq_true rfl) dX5_withOneMore_12 ⟨Nat.le_of_ble_eq_true rfl, Nat.le_of_ble_eq_true rfl⟩ (fun H locs hP hD hS => ?_)
    refine lv_if_ne (tgt := 21) hx hb dX5_withOneMore_15 (by decide) (fun c6 => ?_) (fun c6 => ?_)
    · replace h := fn c6 h
      refine lv_aload_n hx hb dX5_withOneMore_21 rfl (lv_at hl 0 rfl) ?_
      refine lv_iload_n hx hb dX5_withOneMore_22 rfl (lv_at hl 2 rfl) ?_
      refine va_put (D := D) (ci := 5) (v := .int x2) (ty := .int) (C := RX5) (T := TX5) (N := 23) hx hb ht i_X5 tyX5 tyX5_ok nmX5 hown hK hP hD hS 0 rfl rfl 21 (by decide) (ht _ wd_557) (fun _ h9 => h9) rfl (by decide +kernel) rfl rfl (Nat.le_of_ble_eq_true rfl) dX5_withOneMore_23 (fun H locs hP hD hS => ?_)
      obtain ⟨M7, e8, h⟩ := sv_ok h
      have hP : va_P D classes (wX5 a cI cC cO M7) H := by rw [← e8]; exact hP
      have hD : va_D A (wX5 a cI cC cO M7) := by rw [← e8]; exact hD
      refine lv_aload_n hx hb dX5_withOneMore_26 rfl (lv_at hl 0 rfl) ?_
      refine lv_iload_n hx hb dX5_withOneMore_27 rfl (lv_at hl 1 rfl) ?_
      obtain ⟨u9, M10, e11, h⟩ := b2_ok h
      refine cl_Vi (ws' := (wX5 a cI cC cO M10)) ⟨hx, hb, hml, hown, ht⟩ (c_X5_comes l D cI cC cO a M7 x1 _ _ e11) (cwv 1 ht wd_699 wd_6 wd_696 wd_698 ws_31 (by decide +kernel) rfl rfl ⟨Nat.le_of_ble_eq_true rfl, Nat.le_of_ble_eq_true rfl⟩) 5 0 rfl rfl rfl hK hP hD hS hA hN [0, 1, 2, 3, 4, 5, 6, 7, 8, 9, 10, 11, 12] [] [0, 1, 2, 3, 4, 5, 6, 7, 8, 9, 10, 11, 12] (by decide) rfl rfl (by decide) (by decide) rfl (by decide) rfl hl.1 rfl (Nat.le_of_ble_eq_true rfl) dX5_withOneMore_28 ⟨Nat.le_of_ble_eq_true rfl, Nat.le_of_ble_eq_true rfl⟩ (fun H locs hP hD hS => ?_)
      refine lv_istore_n (lv' := [(3, .int u9), (0, .ref (a 0)), (1, .int x1), (2, .int x2)]) hx hb dX5_withOneMore_31 rfl hl (by decide) rfl (fun ls hl => ?_)
      refine lv_aload_n hx hb dX5_withOneMore_32 rfl (lv_at hl 1 rfl) ?_
      obtain ⟨M12, e13, h⟩ := b1_ok h
      refine cl_Vv (ws' := (wX5 a cI cC cO M12)) ⟨hx, hb, hml, hown, ht⟩ (c_X5_asIs l D cI cC cO a M10 _ _ e13) (cwv 0 ht wd_535 wd_6 wd_532 wd_534 ws_19 (by decide +kernel) rfl rfl ⟨Nat.le_of_ble_eq_true rfl, Nat.le_of_ble_eq_true rfl⟩) 5 0 rfl rfl rfl hK hP hD hS hA hN [0, 1, 2, 3, 4, 5, 6, 7, 8, 9, 10, 11, 12] [] [0, 1, 2, 3, 4, 5, 6, 7, 8, 9, 10, 11, 12] (by decide) rfl rfl (by decide) (by decide) rfl (by decide) rfl hl.1 rfl (Nat.le_of_ble_eq_true rfl) dX5_withOneMore_33 ⟨Nat.le_of_ble_eq_true rfl, Nat.le_of_ble_eq_true rfl⟩ (fun H locs hP hD hS => ?_)
      refine lv_iload_n hx hb dX5_withOneMore_36 rfl (lv_at hl 0 rfl) ?_
      cases h
      exact rt_i hx hb hr hlocks hS hP hK hD dX5_withOneMore_37
    · replace h := fp c6 h
      refine lv_ldc hx hb hown (ht _ wd_613) dX5_withOneMore_18 ?_
      cases h
      exact rt_i hx hb hr hlocks hS hP hK hD dX5_withOneMore_20
theorem dX5_bounds_0 : decode cX5_bounds 0 = .ok (.iconst 0, 1) := by decide +kernel
theorem dX5_bounds_1 : decode cX5_bounds 1 = .ok (.istore_n 1, 1) := by decide +kernel
theorem dX5_bounds_2 : decode cX5_bounds 2 = .ok (.iconst 0, 1) := by decide +kernel
theorem dX5_bounds_3 : decode cX5_bounds 3 = .ok (.istore_n 2, 1) := by decide +kernel
theorem dX5_bounds_4 : decode cX5_bounds 4 = .ok (.iload_n 2, 1) := by decide +kernel
theorem dX5_bounds_5 : decode cX5_bounds 5 = .ok (.aload_n 0, 1) := by decide +kernel
theorem dX5_bounds_6 : decode cX5_bounds 6 = .ok (.getfield 7, 3) := by decide +kernel
theorem dX5_bounds_9 : decode cX5_bounds 9 = .ok (.iconst 1, 1) := by decide +kernel
theorem dX5_bounds_10 : decode cX5_bounds 10 = .ok (.iaload, 1) := by decide +kernel
theorem dX5_bounds_11 : decode cX5_bounds 11 = .ok (.if_icmp .ge 18, 3) := by decide +kernel
theorem dX5_bounds_14 : decode cX5_bounds 14 = .ok (.iload_n 1, 1) := by decide +kernel
theorem dX5_bounds_15 : decode cX5_bounds 15 = .ok (.aload_n 0, 1) := by decide +kernel
theorem dX5_bounds_16 : decode cX5_bounds 16 = .ok (.iload_n 2, 1) := by decide +kernel
theorem dX5_bounds_17 : decode cX5_bounds 17 = .ok (.iconst 3, 1) := by decide +kernel
theorem dX5_bounds_18 : decode cX5_bounds 18 = .ok (.invokevirtual 101, 3) := by decide +kernel
theorem dX5_bounds_21 : decode cX5_bounds 21 = .ok (.iadd, 1) := by decide +kernel
theorem dX5_bounds_22 : decode cX5_bounds 22 = .ok (.istore_n 1, 1) := by decide +kernel
theorem dX5_bounds_23 : decode cX5_bounds 23 = .ok (.iinc 2 1, 3) := by decide +kernel
theorem dX5_bounds_26 : decode cX5_bounds 26 = .ok (.goto (-22), 3) := by decide +kernel
theorem dX5_bounds_29 : decode cX5_bounds 29 = .ok (.iload_n 1, 1) := by decide +kernel
theorem dX5_bounds_30 : decode cX5_bounds 30 = .ok (.ireturn, 1) := by decide +kernel
set_option maxHeartbeats 4000000 in
set_option maxRecDepth 100000 in
theorem c_X5_bounds (l : Launch) (D : va_G) (cI cC cO : ClassId) (a : Nat → Nat) (M : Mm) (res : Int32) (sz : Nat) (h : F_X5_bounds M = some res) : Met l yX5_bounds (Cond.code yX5_bounds cX5_bounds 3 (Option.some Jvm.ClassFile.FieldType.int) :: lw_g) ({ frames := 1, cells := 0, slots := 0, locals := 22 } : Room) (va_Pc [.ref (a 0)] (pS D cI cC cO sz (wX5 a cI cC cO M))) (QI D cI cC cO (va_A (wX5 a cI cC cO M) sz) (wX5 a cI cC cO M) res) 0 0 (va_A (wX5 a cI cC cO M) sz) := by
  refine Met.ofW (cc := cX5_bounds) (maxL := 3) (ret := (Option.some Jvm.ClassFile.FieldType.int)) (by decide) rfl ?_
  intro p e s m args below meth c s₁ B hml hv
  obtain ⟨rfl, rfl, hP, hK, hD0, hN⟩ := hv
  have hx := B.exec
  have hb := B.bytes
  have hr := B.returns
  have ht : ∀ w ∈ lw_g, w.before ([.ref (a 0)] : List Value).toArray s = true := fun w hw => atoms_spec (ws := Cond.code yX5_bounds cX5_bounds 3 (Option.some Jvm.ClassFile.FieldType.int) :: lw_g) B.pre w (List.mem_cons_of_mem _ hw)
  have hown : s.vm.findClass RX5 = some m.cls := findClass_of_methodNamed B.named
  have hlocks := B.notSynchronized
  have hD := hD0.self (sz := s.heap.size)
  generalize hAe : va_A (wX5 a cI cC cO M) s.heap.size = A at hD ⊢
  have hA : ∀ q : Nat, s.heap.size ≤ q → A q := fun q hq => by rw [← hAe]; exact Or.inr hq
  have hS : va_S A s.heap s.heap [] := va_S.rf
  have hl := lv_entry ([.ref (a 0)]) (n := 3) (Nat.le_of_ble_eq_true rfl)
  rw [lg_entry_eq]
  generalize (lg_sl ([.ref (a 0)]) ++ List.replicate (3 - (lg_sl ([.ref (a 0)])).length) Slot.unset).toArray = ls at hl ⊢
  have hl : lv_has ls 3 [(0, .ref (a 0))] := hl
  have w4 : ∀ (n4 : Nat) (y1 y2 : Int32) (H : Heap) (locs : List Loc) (ls : Array Slot), F_X5_bounds_4 n4 M y1 y2 = some res → va_P D classes (wX5 a cI cC cO M) H → va_D A (wX5 a cI cC cO M) → va_S A s.heap H locs → lv_has ls 3 [(0, .ref (a 0)), (1, .int y1), (2, .int y2)] → W p l e ({ frames := 1, cells := 0, slots := 0, locals := 22 } : Room) s m ([.ref (a 0)] : List Value).toArray below meth c H locs 0 0 (MQ below (QI D cI cC cO A (wX5 a cI cC cO M) res) ([.ref (a 0)] : List Value).toArray s 0 0 A) (F0 m 4 ls []) := by
    intro n4
    induction n4 with
    | zero => intro y1 y2 H locs ls h hP hD hS hl; exact absurd (show (none : Option (Int32)) = some res from h) (by simp)
    | succ n4 ih4 =>
      intro y1 y2 H locs ls h hP hD hS hl
      have h : F_X5_boundsB_4 (F_X5_bounds_4 n4) M y1 y2 = some res := h
      unfold F_X5_boundsB_4 at h
      refine lv_iload_n hx hb dX5_bounds_4 rfl (lv_at hl 2 rfl) ?_
      refine lv_aload_n hx hb dX5_bounds_5 rfl (lv_at hl 0 rfl) ?_
      refine va_get (D := D) (ci := 5) (v := .ref (a 1)) (C := RX5) (T := TX5) (N := 23) hx hb ht i_X5 hown hK hP 0 rfl rfl 0 (by decide) (ht _ wd_536) (fun _ h9 => h9) rfl dX5_bounds_6 ?_
      refine lv_iconst (v := (1 : Int32)) hx hb dX5_bounds_9 (by decide) ?_
      obtain ⟨i1, h⟩ := ck_ok h
      refine va_iald hx hb hK hP 1 0 rfl rfl i1 dX5_bounds_10 ?_
      refine lv_icmp_ge (tgt := 29) hx hb dX5_bounds_11 (by decide) (fun c2 => ?_) (fun c2 => ?_)
      · replace h := fp c2 h
        refine lv_iload_n hx hb dX5_bounds_29 rfl (lv_at hl 1 rfl) ?_
        cases h
        exact rt_i hx hb hr hlocks hS hP hK hD dX5_bounds_30
      · replace h := fn c2 h
        refine lv_iload_n hx hb dX5_bounds_14 rfl (lv_at hl 1 rfl) ?_
        refine lv_aload_n hx hb dX5_bounds_15 rfl (lv_at hl 0 rfl) ?_
        refine lv_iload_n hx hb dX5_bounds_16 rfl (lv_at hl 2 rfl) ?_
        refine lv_iconst (v := (3 : Int32)) hx hb dX5_bounds_17 (by decide) ?_
        obtain ⟨u3, e4, h⟩ := b1_ok h
        refine cl_Vi (ws' := (wX5 a cI cC cO M)) ⟨hx, hb, hml, hown, ht⟩ (c_X5_pi l D cI cC cO a M y2 (3 : Int32) _ _ e4) (cwv 2 ht wd_678 wd_6 wd_675 wd_677 ws_28 (by decide +kernel) rfl rfl ⟨Nat.le_of_ble_eq_true rfl, Nat.le_of_ble_eq_true rfl⟩) 5 0 rfl rfl rfl hK hP hD hS hA hN [0, 1, 2, 3, 4, 5, 6, 7, 8, 9, 10, 11, 12] [] [0, 1, 2, 3, 4, 5, 6, 7, 8, 9, 10, 11, 12] (by decide) rfl rfl (by decide) (by decide) rfl (by decide) rfl hl.1 rfl (Nat.le_of_ble_eq_true rfl) dX5_bounds_18 ⟨Nat.le_of_ble_eq_true rfl, Nat.le_of_ble_eq_true rfl⟩ (fun H locs hP hD hS => ?_)
        refine lv_iadd hx hb dX5_bounds_21 ?_
        refine lv_istore_n (lv' := [(1, .int (y1 + u3)), (0, .ref (a 0)), (2, .int y2)]) hx hb dX5_bounds_22 rfl hl (by decide) rfl (fun ls hl => ?_)
        refine lv_iinc (v := (y2 + 1)) (lv' := [(2, .int (y2 + 1)), (1, .int (y1 + u3)), (0, .ref (a 0))]) hx hb dX5_bounds_23 hl (k := 2) rfl rfl (by decide) rfl (fun ls hl => ?_)
        refine lv_goto (tgt := 4) hx hb dX5_bounds_26 (by decide) ?_
        exact ih4 (y1 + u3) (y2 + 1) _ _ ls h hP hD hS (lv_sub hl [2, 1, 0] rfl)
  unfold F_X5_bounds at h
  refine lv_iconst (v := (0 : Int32)) hx hb dX5_bounds_0 (by decide) ?_
  refine lv_istore_n (lv' := [(1, .int (0 : Int32)), (0, .ref (a 0))]) hx hb dX5_bounds_1 rfl hl (by decide) rfl (fun ls hl => ?_)
  refine lv_iconst (v := (0 : Int32)) hx hb dX5_bounds_2 (by decide) ?_
  refine lv_istore_n (lv' := [(2, .int (0 : Int32)), (1, .int (0 : Int32)), (0, .ref (a 0))]) hx hb dX5_bounds_3 rfl hl (by decide) rfl (fun ls hl => ?_)
  exact w4 FU (0 : Int32) (0 : Int32) _ _ ls h hP hD hS (lv_sub hl [2, 1, 0] rfl)
theorem dX5_count_0 : decode cX5_count 0 = .ok (.iload_n 1, 1) := by decide +kernel
theorem dX5_count_1 : decode cX5_count 1 = .ok (.tableswitch 66 0 5 #[39, 39, 46, 51, 56, 61], 39) := by decide +kernel
theorem dX5_count_40 : decode cX5_count 40 = .ok (.aload_n 0, 1) := by decide +kernel
theorem dX5_count_41 : decode cX5_count 41 = .ok (.getfield 7, 3) := by decide +kernel
theorem dX5_count_44 : decode cX5_count 44 = .ok (.iload_n 1, 1) := by decide +kernel
theorem dX5_count_45 : decode cX5_count 45 = .ok (.iaload, 1) := by decide +kernel
theorem dX5_count_46 : decode cX5_count 46 = .ok (.ireturn, 1) := by decide +kernel
theorem dX5_count_47 : decode cX5_count 47 = .ok (.aload_n 0, 1) := by decide +kernel
theorem dX5_count_48 : decode cX5_count 48 = .ok (.invokevirtual 146, 3) := by decide +kernel
theorem dX5_count_51 : decode cX5_count 51 = .ok (.ireturn, 1) := by decide +kernel
theorem dX5_count_52 : decode cX5_count 52 = .ok (.aload_n 0, 1) := by decide +kernel
theorem dX5_count_53 : decode cX5_count 53 = .ok (.invokevirtual 153, 3) := by decide +kernel
theorem dX5_count_56 : decode cX5_count 56 = .ok (.ireturn, 1) := by decide +kernel
theorem dX5_count_57 : decode cX5_count 57 = .ok (.aload_n 0, 1) := by decide +kernel
theorem dX5_count_58 : decode cX5_count 58 = .ok (.getfield 68, 3) := by decide +kernel
theorem dX5_count_61 : decode cX5_count 61 = .ok (.ireturn, 1) := by decide +kernel
theorem dX5_count_62 : decode cX5_count 62 = .ok (.aload_n 0, 1) := by decide +kernel
theorem dX5_count_63 : decode cX5_count 63 = .ok (.getfield 156, 3) := by decide +kernel
theorem dX5_count_66 : decode cX5_count 66 = .ok (.ireturn, 1) := by decide +kernel
theorem dX5_count_67 : decode cX5_count 67 = .ok (.ldc 67, 2) := by decide +kernel
theorem dX5_count_69 : decode cX5_count 69 = .ok (.ireturn, 1) := by decide +kernel
set_option maxHeartbeats 4000000 in
set_option maxRecDepth 100000 in
theorem c_X5_count (l : Launch) (D : va_G) (cI cC cO : ClassId) (a : Nat → Nat) (M : Mm) (x1 : Int32) (res : Int32) (sz : Nat) (h : F_X5_count M x1 = some res) : Met l yX5_count (Cond.code yX5_count cX5_count 2 (Option.some Jvm.ClassFile.FieldType.int) :: lw_g) ({ frames := 2, cells := 0, slots := 0, locals := 44 } : Room) (va_Pc [.ref (a 0), .int x1] (pS D cI cC cO sz (wX5 a cI cC cO M))) (QI D cI cC cO (va_A (wX5 a cI cC cO M) sz) (wX5 a cI cC cO M) res) 0 0 (va_A (wX5 a cI cC cO M) sz) := by
  refine Met.ofW (cc := cX5_count) (maxL := 2) (ret := (Option.some Jvm.ClassFile.FieldType.int)) (by decide) rfl ?_
  intro p e s m args below meth c s₁ B hml hv
  obtain ⟨rfl, rfl, hP, hK, hD0, hN⟩ := hv
  have hx := B.exec
  have hb := B.bytes
  have hr := B.returns
  have ht : ∀ w ∈ lw_g, w.before ([.ref (a 0), .int x1] : List Value).toArray s = true := fun w hw => atoms_spec (ws := Cond.code yX5_count cX5_count 2 (Option.some Jvm.ClassFile.FieldType.int) :: lw_g) B.pre w (List.mem_cons_of_mem _ hw)
  have hown : s.vm.findClass RX5 = some m.cls := findClass_of_methodNamed B.named
  have hlocks := B.notSynchronized
  have hD := hD0.self (sz := s.heap.size)
  generalize hAe : va_A (wX5 a cI cC cO M) s.heap.size = A at hD ⊢
  have hA : ∀ q : Nat, s.heap.size ≤ q → A q := fun q hq => by rw [← hAe]; exact Or.inr hq
  have hS : va_S A s.heap s.heap [] := va_S.rf
  have hl := lv_entry ([.ref (a 0), .int x1]) (n := 2) (Nat.le_of_ble_eq_true rfl)
  rw [lg_entry_eq]
  generalize (lg_sl ([.ref (a 0), .int x1]) ++ List.replicate (2 - (lg_sl ([.ref (a 0), .int x1])).length) Slot.unset).toArray = ls at hl ⊢
  have hl : lv_has ls 2 [(0, .ref (a 0)), (1, .int x1)] := hl
  unfold F_X5_count at h
  refine lv_iload_n hx hb dX5_count_0 rfl (lv_at hl 1 rfl) ?_
  by_cases c1 : x1 = (0 : Int32)
  · replace h := fp c1 h
    refine lv_tableIn (off := 39) (tgt := 40) hx hb dX5_count_1 (by rw [c1]; decide) (by rw [c1]; decide) (by rw [c1]; rfl) (by decide) ?_
    refine lv_aload_n hx hb dX5_count_40 rfl (lv_at hl 0 rfl) ?_
    refine va_get (D := D) (ci := 5) (v := .ref (a 1)) (C := RX5) (T := TX5) (N := 23) hx hb ht i_X5 hown hK hP 0 rfl rfl 0 (by decide) (ht _ wd_536) (fun _ h9 => h9) rfl dX5_count_41 ?_
    refine lv_iload_n hx hb dX5_count_44 rfl (lv_at hl 1 rfl) ?_
    obtain ⟨i2, h⟩ := ck_ok h
    refine va_iald hx hb hK hP 1 0 rfl rfl i2 dX5_count_45 ?_
    cases h
    exact rt_i hx hb hr hlocks hS hP hK hD dX5_count_46
  · replace h := fn c1 h
    by_cases c3 : x1 = (1 : Int32)
    · replace h := fp c3 h
      refine lv_tableIn (off := 39) (tgt := 40) hx hb dX5_count_1 (by rw [c3]; decide) (by rw [c3]; decide) (by rw [c3]; rfl) (by decide) ?_
      refine lv_aload_n hx hb dX5_count_40 rfl (lv_at hl 0 rfl) ?_
      refine va_get (D := D) (ci := 5) (v := .ref (a 1)) (C := RX5) (T := TX5) (N := 23) hx hb ht i_X5 hown hK hP 0 rfl rfl 0 (by decide) (ht _ wd_536) (fun _ h9 => h9) rfl dX5_count_41 ?_
      refine lv_iload_n hx hb dX5_count_44 rfl (lv_at hl 1 rfl) ?_
      obtain ⟨i4, h⟩ := ck_ok h
      refine va_iald hx hb hK hP 1 0 rfl rfl i4 dX5_count_45 ?_
      cases h
      exact rt_i hx hb hr hlocks hS hP hK hD dX5_count_46
    · replace h := fn c3 h
      by_cases c5 : x1 = (2 : Int32)
      · replace h := fp c5 h
        refine lv_tableIn (off := 46) (tgt := 47) hx hb dX5_count_1 (by rw [c5]; decide) (by rw [c5]; decide) (by rw [c5]; rfl) (by decide) ?_
        refine lv_aload_n hx hb dX5_count_47 rfl (lv_at hl 0 rfl) ?_
        obtain ⟨u6, e7, h⟩ := b1_ok h
        refine cl_Vi (ws' := (wX5 a cI cC cO M)) ⟨hx, hb, hml, hown, ht⟩ (c_X5_all l D cI cC cO a M _ _ e7) (cwv 0 ht wd_736 wd_6 wd_733 wd_735 ws_39 (by decide +kernel) rfl rfl ⟨Nat.le_of_ble_eq_true rfl, Nat.le_of_ble_eq_true rfl⟩) 5 0 rfl rfl rfl hK hP hD hS hA hN [0, 1, 2, 3, 4, 5, 6, 7, 8, 9, 10, 11, 12] [] [0, 1, 2, 3, 4, 5, 6, 7, 8, 9, 10, 11, 12] (by decide) rfl rfl (by decide) (by decide) rfl (by decide) rfl hl.1 rfl (Nat.le_of_ble_eq_true rfl) dX5_count_48 ⟨Nat.le_of_ble_eq_true rfl, Nat.le_of_ble_eq_true rfl⟩ (fun H locs hP hD hS => ?_)
        cases h
        exact rt_i hx hb hr hlocks hS hP hK hD dX5_count_51
      · replace h := fn c5 h
        by_cases c8 : x1 = (3 : Int32)
        · replace h := fp c8 h
          refine lv_tableIn (off := 51) (tgt := 52) hx hb dX5_count_1 (by rw [c8]; decide) (by rw [c8]; decide) (by rw [c8]; rfl) (by decide) ?_
          refine lv_aload_n hx hb dX5_count_52 rfl (lv_at hl 0 rfl) ?_
          obtain ⟨u9, e10, h⟩ := b1_ok h
          refine cl_Vi (ws' := (wX5 a cI cC cO M)) ⟨hx, hb, hml, hown, ht⟩ (c_X5_bounds l D cI cC cO a M _ _ e10) (cwv 0 ht wd_772 wd_6 wd_769 wd_771 ws_41 (by decide +kernel) rfl rfl ⟨Nat.le_of_ble_eq_true rfl, Nat.le_of_ble_eq_true rfl⟩) 5 0 rfl rfl rfl hK hP hD hS hA hN [0, 1, 2, 3, 4, 5, 6, 7, 8, 9, 10, 11, 12] [] [0, 1, 2, 3, 4, 5, 6, 7, 8, 9, 10, 11, 12] (by decide) rfl rfl (by decide) (by decide) rfl (by decide) rfl hl.1 rfl (Nat.le_of_ble_eq_true rfl) dX5_count_53 ⟨Nat.le_of_ble_eq_true rfl, Nat.le_of_ble_eq_true rfl⟩ (fun H locs hP hD hS => ?_)
          cases h
          exact rt_i hx hb hr hlocks hS hP hK hD dX5_count_56
        · replace h := fn c8 h
          by_cases c11 : x1 = (4 : Int32)
          · replace h := fp c11 h
            refine lv_tableIn (off := 56) (tgt := 57) hx hb dX5_count_1 (by rw [c11]; decide) (by rw [c11]; decide) (by rw [c11]; rfl) (by decide) ?_
            refine lv_aload_n hx hb dX5_count_57 rfl (lv_at hl 0 rfl) ?_
            refine va_get (D := D) (ci := 5) (v := .int (M 12 0)) (C := RX5) (T := TX5) (N := 23) hx hb ht i_X5 hown hK hP 0 rfl rfl 4 (by decide) (ht _ wd_540) (fun _ h9 => h9) rfl dX5_count_58 ?_
            cases h
            exact rt_i hx hb hr hlocks hS hP hK hD dX5_count_61
          · replace h := fn c11 h
            by_cases c12 : x1 = (5 : Int32)
            · replace h := fp c12 h
              refine lv_tableIn (off := 61) (tgt := 62) hx hb dX5_count_1 (by rw [c12]; decide) (by rw [c12]; decide) (by rw [c12]; rfl) (by decide) ?_
              refine lv_aload_n hx hb dX5_count_62 rfl (lv_at hl 0 rfl) ?_
              refine va_get (D := D) (ci := 5) (v := .int (M 12 1)) (C := RX5) (T := TX5) (N := 23) hx hb ht i_X5 hown hK hP 0 rfl rfl 6 (by decide) (ht _ wd_542) (fun _ h9 => h9) rfl dX5_count_63 ?_
              cases h
              exact rt_i hx hb hr hlocks hS hP hK hD dX5_count_66
            · replace h := fn c12 h
              refine lv_tableOut (tgt := 67) hx hb dX5_count_1 (sw_out (x := x1) (n := 6) (by decide) (fun k hk => match k, hk with | 0, _ => c1 | 1, _ => c3 | 2, _ => c5 | 3, _ => c8 | 4, _ => c11 | 5, _ => c12 | k + 6, hk => absurd hk (by omega))) (by decide) ?_
              refine lv_ldc hx hb hown (ht _ wd_613) dX5_count_67 ?_
              cases h
              exact rt_i hx hb hr hlocks hS hP hK hD dX5_count_69
theorem dX5_undo_0 : decode cX5_undo 0 = .ok (.aload_n 0, 1) := by decide +kernel
theorem dX5_undo_1 : decode cX5_undo 1 = .ok (.getfield 68, 3) := by decide +kernel
theorem dX5_undo_4 : decode cX5_undo 4 = .ok (.ifCond .ne 6, 3) := by decide +kernel
theorem dX5_undo_7 : decode cX5_undo 7 = .ok (.ldc 159, 2) := by decide +kernel
theorem dX5_undo_9 : decode cX5_undo 9 = .ok (.ireturn, 1) := by decide +kernel
theorem dX5_undo_10 : decode cX5_undo 10 = .ok (.aload_n 0, 1) := by decide +kernel
theorem dX5_undo_11 : decode cX5_undo 11 = .ok (.dup, 1) := by decide +kernel
theorem dX5_undo_12 : decode cX5_undo 12 = .ok (.getfield 68, 3) := by decide +kernel
theorem dX5_undo_15 : decode cX5_undo 15 = .ok (.iconst 1, 1) := by decide +kernel
theorem dX5_undo_16 : decode cX5_undo 16 = .ok (.isub, 1) := by decide +kernel
theorem dX5_undo_17 : decode cX5_undo 17 = .ok (.putfield 68, 3) := by decide +kernel
theorem dX5_undo_20 : decode cX5_undo 20 = .ok (.iconst 0, 1) := by decide +kernel
theorem dX5_undo_21 : decode cX5_undo 21 = .ok (.istore_n 1, 1) := by decide +kernel
theorem dX5_undo_22 : decode cX5_undo 22 = .ok (.iload_n 1, 1) := by decide +kernel
theorem dX5_undo_23 : decode cX5_undo 23 = .ok (.bipush 74, 2) := by decide +kernel
theorem dX5_undo_25 : decode cX5_undo 25 = .ok (.if_icmp .ge 29, 3) := by decide +kernel
theorem dX5_undo_28 : decode cX5_undo 28 = .ok (.aload_n 0, 1) := by decide +kernel
theorem dX5_undo_29 : decode cX5_undo 29 = .ok (.getfield 7, 3) := by decide +kernel
theorem dX5_undo_32 : decode cX5_undo 32 = .ok (.iload_n 1, 1) := by decide +kernel
theorem dX5_undo_33 : decode cX5_undo 33 = .ok (.aload_n 0, 1) := by decide +kernel
theorem dX5_undo_34 : decode cX5_undo 34 = .ok (.getfield 13, 3) := by decide +kernel
theorem dX5_undo_37 : decode cX5_undo 37 = .ok (.bipush 74, 2) := by decide +kernel
theorem dX5_undo_39 : decode cX5_undo 39 = .ok (.aload_n 0, 1) := by decide +kernel
theorem dX5_undo_40 : decode cX5_undo 40 = .ok (.getfield 68, 3) := by decide +kernel
theorem dX5_undo_43 : decode cX5_undo 43 = .ok (.imul, 1) := by decide +kernel
theorem dX5_undo_44 : decode cX5_undo 44 = .ok (.iload_n 1, 1) := by decide +kernel
theorem dX5_undo_45 : decode cX5_undo 45 = .ok (.iadd, 1) := by decide +kernel
theorem dX5_undo_46 : decode cX5_undo 46 = .ok (.iaload, 1) := by decide +kernel
theorem dX5_undo_47 : decode cX5_undo 47 = .ok (.iastore, 1) := by decide +kernel
theorem dX5_undo_48 : decode cX5_undo 48 = .ok (.iinc 1 1, 3) := by decide +kernel
theorem dX5_undo_51 : decode cX5_undo 51 = .ok (.goto (-29), 3) := by decide +kernel
theorem dX5_undo_54 : decode cX5_undo 54 = .ok (.aload_n 0, 1) := by decide +kernel
theorem dX5_undo_55 : decode cX5_undo 55 = .ok (.getfield 68, 3) := by decide +kernel
theorem dX5_undo_58 : decode cX5_undo 58 = .ok (.ireturn, 1) := by decide +kernel
set_option maxHeartbeats 4000000 in
set_option maxRecDepth 100000 in
theorem c_X5_undo (l : Launch) (D : va_G) (cI cC cO : ClassId) (a : Nat → Nat) (M : Mm) (res : Int32 × Mm) (sz : Nat) (h : F_X5_undo M = some res) : Met l yX5_undo (Cond.code yX5_undo cX5_undo 2 (Option.some Jvm.ClassFile.FieldType.int) :: lw_g) ({ frames := 0, cells := 0, slots := 0, locals := 0 } : Room) (va_Pc [.ref (a 0)] (pS D cI cC cO sz (wX5 a cI cC cO M))) (QI D cI cC cO (va_A (wX5 a cI cC cO M) sz) (wX5 a cI cC cO res.2) res.1) 0 0 (va_A (wX5 a cI cC cO M) sz) := by
  refine Met.ofW (cc := cX5_undo) (maxL := 2) (ret := (Option.some Jvm.ClassFile.FieldType.int)) (by decide) rfl ?_
  intro p e s m args below meth c s₁ B hml hv
  obtain ⟨rfl, rfl, hP, hK, hD0, hN⟩ := hv
  have hx := B.exec
  have hb := B.bytes
  have hr := B.returns
  have ht : ∀ w ∈ lw_g, w.before ([.ref (a 0)] : List Value).toArray s = true := fun w hw => atoms_spec (ws := Cond.code yX5_undo cX5_undo 2 (Option.some Jvm.ClassFile.FieldType.int) :: lw_g) B.pre w (List.mem_cons_of_mem _ hw)
  have hown : s.vm.findClass RX5 = some m.cls := findClass_of_methodNamed B.named
  have hlocks := B.notSynchronized
  have hD := hD0.self (sz := s.heap.size)
  generalize hAe : va_A (wX5 a cI cC cO M) s.heap.size = A at hD ⊢
  have hA : ∀ q : Nat, s.heap.size ≤ q → A q := fun q hq => by rw [← hAe]; exact Or.inr hq
  have hS : va_S A s.heap s.heap [] := va_S.rf
  have hl := lv_entry ([.ref (a 0)]) (n := 2) (Nat.le_of_ble_eq_true rfl)
  rw [lg_entry_eq]
  generalize (lg_sl ([.ref (a 0)]) ++ List.replicate (2 - (lg_sl ([.ref (a 0)])).length) Slot.unset).toArray = ls at hl ⊢
  have hl : lv_has ls 2 [(0, .ref (a 0))] := hl
  have w22 : ∀ (n22 : Nat) (M : Mm) (y1 : Int32) (H : Heap) (locs : List Loc) (ls : Array Slot), F_X5_undo_22 n22 M y1 = some res → va_P D classes (wX5 a cI cC cO M) H → va_D A (wX5 a cI cC cO M) → va_S A s.heap H locs → lv_has ls 2 [(0, .ref (a 0)), (1, .int y1)] → W p l e ({ frames := 0, cells := 0, slots := 0, locals := 0 } : Room) s m ([.ref (a 0)] : List Value).toArray below meth c H locs 0 0 (MQ below (QI D cI cC cO A (wX5 a cI cC cO res.2) res.1) ([.ref (a 0)] : List Value).toArray s 0 0 A) (F0 m 22 ls []) := by
    intro n22
    induction n22 with
    | zero => intro M y1 H locs ls h hP hD hS hl; exact absurd (show (none : Option (Int32 × Mm)) = some res from h) (by simp)
    | succ n22 ih22 =>
      intro M y1 H locs ls h hP hD hS hl
      have h : F_X5_undoB_22 (F_X5_undo_22 n22) M y1 = some res := h
      unfold F_X5_undoB_22 at h
      refine lv_iload_n hx hb dX5_undo_22 rfl (lv_at hl 1 rfl) ?_
      refine lv_bipush (v := (74 : Int32)) hx hb dX5_undo_23 (by decide) ?_
      refine lv_icmp_ge (tgt := 54) hx hb dX5_undo_25 (by decide) (fun c1 => ?_) (fun c1 => ?_)
      · replace h := fp c1 h
        refine lv_aload_n hx hb dX5_undo_54 rfl (lv_at hl 0 rfl) ?_
        refine va_get (D := D) (ci := 5) (v := .int (M 12 0)) (C := RX5) (T := TX5) (N := 23) hx hb ht i_X5 hown hK hP 0 rfl rfl 4 (by decide) (ht _ wd_540) (fun _ h9 => h9) rfl dX5_undo_55 ?_
        cases h
        exact rt_i hx hb hr hlocks hS hP hK hD dX5_undo_58
      · replace h := fn c1 h
        refine lv_aload_n hx hb dX5_undo_28 rfl (lv_at hl 0 rfl) ?_
        refine va_get (D := D) (ci := 5) (v := .ref (a 1)) (C := RX5) (T := TX5) (N := 23) hx hb ht i_X5 hown hK hP 0 rfl rfl 0 (by decide) (ht _ wd_536) (fun _ h9 => h9) rfl dX5_undo_29 ?_
        refine lv_iload_n hx hb dX5_undo_32 rfl (lv_at hl 1 rfl) ?_
        refine lv_aload_n hx hb dX5_undo_33 rfl (lv_at hl 0 rfl) ?_
        refine va_get (D := D) (ci := 5) (v := .ref (a 2)) (C := RX5) (T := TX5) (N := 23) hx hb ht i_X5 hown hK hP 0 rfl rfl 1 (by decide) (ht _ wd_537) (fun _ h9 => h9) rfl dX5_undo_34 ?_
        refine lv_bipush (v := (74 : Int32)) hx hb dX5_undo_37 (by decide) ?_
        refine lv_aload_n hx hb dX5_undo_39 rfl (lv_at hl 0 rfl) ?_
        refine va_get (D := D) (ci := 5) (v := .int (M 12 0)) (C := RX5) (T := TX5) (N := 23) hx hb ht i_X5 hown hK hP 0 rfl rfl 4 (by decide) (ht _ wd_540) (fun _ h9 => h9) rfl dX5_undo_40 ?_
        refine lv_imul hx hb dX5_undo_43 ?_
        refine lv_iload_n hx hb dX5_undo_44 rfl (lv_at hl 1 rfl) ?_
        refine lv_iadd hx hb dX5_undo_45 ?_
        obtain ⟨i2, h⟩ := ck_ok h
        refine va_iald hx hb hK hP 2 0 rfl rfl i2 dX5_undo_46 ?_
        obtain ⟨i3, h⟩ := ck_ok h
        refine va_iast hx hb hK hP hD hS 1 0 rfl rfl i3 dX5_undo_47 (fun H locs hP hD hS => ?_)
        obtain ⟨M4, e5, h⟩ := sv_ok h
        have hP : va_P D classes (wX5 a cI cC cO M4) H := by rw [← e5]; exact hP
        have hD : va_D A (wX5 a cI cC cO M4) := by rw [← e5]; exact hD
        refine lv_iinc (v := (y1 + 1)) (lv' := [(1, .int (y1 + 1)), (0, .ref (a 0))]) hx hb dX5_undo_48 hl (k := 1) rfl rfl (by decide) rfl (fun ls hl => ?_)
        refine lv_goto (tgt := 22) hx hb dX5_undo_51 (by decide) ?_
        exact ih22 M4 (y1 + 1) _ _ ls h hP hD hS (lv_sub hl [1, 0] rfl)
  unfold F_X5_undo at h
  refine lv_aload_n hx hb dX5_undo_0 rfl (lv_at hl 0 rfl) ?_
  refine va_get (D := D) (ci := 5) (v := .int (M 12 0)) (C := RX5) (T := TX5) (N := 23) hx hb ht i_X5 hown hK hP 0 rfl rfl 4 (by decide) (ht _ wd_540) (fun _ h9 => h9) rfl dX5_undo_1 ?_
  refine lv_if_ne (tgt := 10) hx hb dX5_undo_4 (by decide) (fun c1 => ?_) (fun c1 => ?_)
  · replace h := fn c1 h
    refine lv_aload_n hx hb dX5_undo_10 rfl (lv_at hl 0 rfl) ?_
    refine lv_dup hx hb dX5_undo_11 rfl ?_
    refine va_get (D := D) (ci := 5) (v := .int (M 12 0)) (C := RX5) (T := TX5) (N := 23) hx hb ht i_X5 hown hK hP 0 rfl rfl 4 (by decide) (ht _ wd_540) (fun _ h9 => h9) rfl dX5_undo_12 ?_
    refine lv_iconst (v := (1 : Int32)) hx hb dX5_undo_15 (by decide) ?_
    refine lv_isub hx hb dX5_undo_16 ?_
    refine va_put (D := D) (ci := 5) (v := .int ((M 12 0) - (1 : Int32))) (ty := .int) (C := RX5) (T := TX5) (N := 23) hx hb ht i_X5 tyX5 tyX5_ok nmX5 hown hK hP hD hS 0 rfl rfl 4 (by decide) (ht _ wd_540) (fun _ h9 => h9) rfl (by decide +kernel) rfl rfl (Nat.le_of_ble_eq_true rfl) dX5_undo_17 (fun H locs hP hD hS => ?_)
    obtain ⟨M2, e3, h⟩ := sv_ok h
    have hP : va_P D classes (wX5 a cI cC cO M2) H := by rw [← e3]; exact hP
    have hD : va_D A (wX5 a cI cC cO M2) := by rw [← e3]; exact hD
    refine lv_iconst (v := (0 : Int32)) hx hb dX5_undo_20 (by decide) ?_
    refine lv_istore_n (lv' := [(1, .int (0 : Int32)), (0, .ref (a 0))]) hx hb dX5_undo_21 rfl hl (by decide) rfl (fun ls hl => ?_)
    exact w22 FU M2 (0 : Int32) _ _ ls h hP hD hS (lv_sub hl [1, 0] rfl)
  · replace h := fp c1 h
    refine lv_ldc hx hb hown (ht _ wd_777) dX5_undo_7 ?_
    cases h
    exact rt_i hx hb hr hlocks hS hP hK hD dX5_undo_9
theorem dX5_type_0 : decode cX5_type 0 = .ok (.iload_n 1, 1) := by decide +kernel
theorem dX5_type_1 : decode cX5_type 1 = .ok (.bipush 32, 2) := by decide +kernel
theorem dX5_type_3 : decode cX5_type 3 = .ok (.bipush 126, 2) := by decide +kernel
theorem dX5_type_5 : decode cX5_type 5 = .ok (.invokestatic 63, 3) := by decide +kernel
theorem dX5_type_8 : decode cX5_type 8 = .ok (.ifCond .ne 6, 3) := by decide +kernel
theorem dX5_type_11 : decode cX5_type 11 = .ok (.ldc 67, 2) := by decide +kernel
theorem dX5_type_13 : decode cX5_type 13 = .ok (.ireturn, 1) := by decide +kernel
theorem dX5_type_14 : decode cX5_type 14 = .ok (.aload_n 0, 1) := by decide +kernel
theorem dX5_type_15 : decode cX5_type 15 = .ok (.getfield 156, 3) := by decide +kernel
theorem dX5_type_18 : decode cX5_type 18 = .ok (.bipush 60, 2) := by decide +kernel
theorem dX5_type_20 : decode cX5_type 20 = .ok (.if_icmp .ne 6, 3) := by decide +kernel
theorem dX5_type_23 : decode cX5_type 23 = .ok (.ldc 71, 2) := by decide +kernel
theorem dX5_type_25 : decode cX5_type 25 = .ok (.ireturn, 1) := by decide +kernel
theorem dX5_type_26 : decode cX5_type 26 = .ok (.aload_n 0, 1) := by decide +kernel
theorem dX5_type_27 : decode cX5_type 27 = .ok (.getfield 22, 3) := by decide +kernel
theorem dX5_type_30 : decode cX5_type 30 = .ok (.aload_n 0, 1) := by decide +kernel
theorem dX5_type_31 : decode cX5_type 31 = .ok (.getfield 156, 3) := by decide +kernel
theorem dX5_type_34 : decode cX5_type 34 = .ok (.iload_n 1, 1) := by decide +kernel
theorem dX5_type_35 : decode cX5_type 35 = .ok (.i2c, 1) := by decide +kernel
theorem dX5_type_36 : decode cX5_type 36 = .ok (.castore, 1) := by decide +kernel
theorem dX5_type_37 : decode cX5_type 37 = .ok (.aload_n 0, 1) := by decide +kernel
theorem dX5_type_38 : decode cX5_type 38 = .ok (.dup, 1) := by decide +kernel
theorem dX5_type_39 : decode cX5_type 39 = .ok (.getfield 156, 3) := by decide +kernel
theorem dX5_type_42 : decode cX5_type 42 = .ok (.iconst 1, 1) := by decide +kernel
theorem dX5_type_43 : decode cX5_type 43 = .ok (.iadd, 1) := by decide +kernel
theorem dX5_type_44 : decode cX5_type 44 = .ok (.putfield 156, 3) := by decide +kernel
theorem dX5_type_47 : decode cX5_type 47 = .ok (.aload_n 0, 1) := by decide +kernel
theorem dX5_type_48 : decode cX5_type 48 = .ok (.getfield 156, 3) := by decide +kernel
theorem dX5_type_51 : decode cX5_type 51 = .ok (.ireturn, 1) := by decide +kernel
set_option maxHeartbeats 4000000 in
set_option maxRecDepth 100000 in
theorem c_X5_type (l : Launch) (D : va_G) (cI cC cO : ClassId) (a : Nat → Nat) (M : Mm) (x1 : Int32) (res : Int32 × Mm) (sz : Nat) (h : F_X5_type M x1 = some res) : Met l yX5_type (Cond.code yX5_type cX5_type 2 (Option.some Jvm.ClassFile.FieldType.int) :: lw_g) ({ frames := 1, cells := 0, slots := 0, locals := 22 } : Room) (va_Pc [.ref (a 0), .int x1] (pS D cI cC cO sz (wX5 a cI cC cO M))) (QI D cI cC cO (va_A (wX5 a cI cC cO M) sz) (wX5 a cI cC cO res.2) res.1) 0 0 (va_A (wX5 a cI cC cO M) sz) := by
  refine Met.ofW (cc := cX5_type) (maxL := 2) (ret := (Option.some Jvm.ClassFile.FieldType.int)) (by decide) rfl ?_
  intro p e s m args below meth c s₁ B hml hv
  obtain ⟨rfl, rfl, hP, hK, hD0, hN⟩ := hv
  have hx := B.exec
  have hb := B.bytes
  have hr := B.returns
  have ht : ∀ w ∈ lw_g, w.before ([.ref (a 0), .int x1] : List Value).toArray s = true := fun w hw => atoms_spec (ws := Cond.code yX5_type cX5_type 2 (Option.some Jvm.ClassFile.FieldType.int) :: lw_g) B.pre w (List.mem_cons_of_mem _ hw)
  have hown : s.vm.findClass RX5 = some m.cls := findClass_of_methodNamed B.named
  have hlocks := B.notSynchronized
  have hD := hD0.self (sz := s.heap.size)
  generalize hAe : va_A (wX5 a cI cC cO M) s.heap.size = A at hD ⊢
  have hA : ∀ q : Nat, s.heap.size ≤ q → A q := fun q hq => by rw [← hAe]; exact Or.inr hq
  have hS : va_S A s.heap s.heap [] := va_S.rf
  have hl := lv_entry ([.ref (a 0), .int x1]) (n := 2) (Nat.le_of_ble_eq_true rfl)
  rw [lg_entry_eq]
  generalize (lg_sl ([.ref (a 0), .int x1]) ++ List.replicate (2 - (lg_sl ([.ref (a 0), .int x1])).length) Slot.unset).toArray = ls at hl ⊢
  have hl : lv_has ls 2 [(0, .ref (a 0)), (1, .int x1)] := hl
  unfold F_X5_type at h
  refine lv_iload_n hx hb dX5_type_0 rfl (lv_at hl 1 rfl) ?_
  refine lv_bipush (v := (32 : Int32)) hx hb dX5_type_1 (by decide) ?_
  refine lv_bipush (v := (126 : Int32)) hx hb dX5_type_3 (by decide) ?_
  obtain ⟨u1, e2, h⟩ := b1_ok h
  refine cl_Si (ws' := (wX5 a cI cC cO M)) ⟨hx, hb, hml, hown, ht⟩ (c_X5_in l D cI cC cO x1 (32 : Int32) (126 : Int32) _ _ e2) (cwst 3 ht wd_612 wd_6 wd_610 wd_611 (by decide +kernel) rfl rfl ⟨Nat.le_of_ble_eq_true rfl, Nat.le_of_ble_eq_true rfl⟩) hK hP hD hS hA hN [] [0, 1, 2, 3, 4, 5, 6, 7, 8, 9, 10, 11, 12] [0, 1, 2, 3, 4, 5, 6, 7, 8, 9, 10, 11, 12] (by decide) rfl rfl (by decide) (by decide) rfl (by decide) rfl hl.1 rfl (Nat.le_of_ble_eq_true rfl) dX5_type_5 ⟨Nat.le_of_ble_eq_true rfl, Nat.le_of_ble_eq_true rfl⟩ (fun H locs hP hD hS => ?_)
  refine lv_if_ne (tgt := 14) hx hb dX5_type_8 (by decide) (fun c3 => ?_) (fun c3 => ?_)
  · replace h := fn c3 h
    refine lv_aload_n hx hb dX5_type_14 rfl (lv_at hl 0 rfl) ?_
    refine va_get (D := D) (ci := 5) (v := .int (M 12 1)) (C := RX5) (T := TX5) (N := 23) hx hb ht i_X5 hown hK hP 0 rfl rfl 6 (by decide) (ht _ wd_542) (fun _ h9 => h9) rfl dX5_type_15 ?_
    refine lv_bipush (v := (60 : Int32)) hx hb dX5_type_18 (by decide) ?_
    refine lv_icmp_ne (tgt := 26) hx hb dX5_type_20 (by decide) (fun c4 => ?_) (fun c4 => ?_)
    · replace h := fn c4 h
      refine lv_aload_n hx hb dX5_type_26 rfl (lv_at hl 0 rfl) ?_
      refine va_get (D := D) (ci := 5) (v := .ref (a 5)) (C := RX5) (T := TX5) (N := 23) hx hb ht i_X5 hown hK hP 0 rfl rfl 5 (by decide) (ht _ wd_541) (fun _ h9 => h9) rfl dX5_type_27 ?_
      refine lv_aload_n hx hb dX5_type_30 rfl (lv_at hl 0 rfl) ?_
      refine va_get (D := D) (ci := 5) (v := .int (M 12 1)) (C := RX5) (T := TX5) (N := 23) hx hb ht i_X5 hown hK hP 0 rfl rfl 6 (by decide) (ht _ wd_542) (fun _ h9 => h9) rfl dX5_type_31 ?_
      refine lv_iload_n hx hb dX5_type_34 rfl (lv_at hl 1 rfl) ?_
      refine lv_i2c (v := ((x1.toUInt32 % 65536).toInt32)) hx hb dX5_type_35 rfl ?_
      obtain ⟨i5, h⟩ := ck_ok h
      refine va_cast hx hb hK hP hD hS 5 1 rfl rfl i5 dX5_type_36 (fun H locs hP hD hS => ?_)
      obtain ⟨M6, e7, h⟩ := sv_ok h
      have hP : va_P D classes (wX5 a cI cC cO M6) H := by rw [← e7]; exact hP
      have hD : va_D A (wX5 a cI cC cO M6) := by rw [← e7]; exact hD
      refine lv_aload_n hx hb dX5_type_37 rfl (lv_at hl 0 rfl) ?_
      refine lv_dup hx hb dX5_type_38 rfl ?_
      refine va_get (D := D) (ci := 5) (v := .int (M6 12 1)) (C := RX5) (T := TX5) (N := 23) hx hb ht i_X5 hown hK hP 0 rfl rfl 6 (by decide) (ht _ wd_542) (fun _ h9 => h9) rfl dX5_type_39 ?_
      refine lv_iconst (v := (1 : Int32)) hx hb dX5_type_42 (by decide) ?_
      refine lv_iadd hx hb dX5_type_43 ?_
      refine va_put (D := D) (ci := 5) (v := .int ((M6 12 1) + (1 : Int32))) (ty := .int) (C := RX5) (T := TX5) (N := 23) hx hb ht i_X5 tyX5 tyX5_ok nmX5 hown hK hP hD hS 0 rfl rfl 6 (by decide) (ht _ wd_542) (fun _ h9 => h9) rfl (by decide +kernel) rfl rfl (Nat.le_of_ble_eq_true rfl) dX5_type_44 (fun H locs hP hD hS => ?_)
      obtain ⟨M8, e9, h⟩ := sv_ok h
      have hP : va_P D classes (wX5 a cI cC cO M8) H := by rw [← e9]; exact hP
      have hD : va_D A (wX5 a cI cC cO M8) := by rw [← e9]; exact hD
      refine lv_aload_n hx hb dX5_type_47 rfl (lv_at hl 0 rfl) ?_
      refine va_get (D := D) (ci := 5) (v := .int (M8 12 1)) (C := RX5) (T := TX5) (N := 23) hx hb ht i_X5 hown hK hP 0 rfl rfl 6 (by decide) (ht _ wd_542) (fun _ h9 => h9) rfl dX5_type_48 ?_
      cases h
      exact rt_i hx hb hr hlocks hS hP hK hD dX5_type_51
    · replace h := fp c4 h
      refine lv_ldc hx hb hown (ht _ wd_622) dX5_type_23 ?_
      cases h
      exact rt_i hx hb hr hlocks hS hP hK hD dX5_type_25
  · replace h := fp c3 h
    refine lv_ldc hx hb hown (ht _ wd_613) dX5_type_11 ?_
    cases h
    exact rt_i hx hb hr hlocks hS hP hK hD dX5_type_13
theorem dX5_clearText_0 : decode cX5_clearText 0 = .ok (.aload_n 0, 1) := by decide +kernel
theorem dX5_clearText_1 : decode cX5_clearText 1 = .ok (.getfield 156, 3) := by decide +kernel
theorem dX5_clearText_4 : decode cX5_clearText 4 = .ok (.istore_n 1, 1) := by decide +kernel
theorem dX5_clearText_5 : decode cX5_clearText 5 = .ok (.aload_n 0, 1) := by decide +kernel
theorem dX5_clearText_6 : decode cX5_clearText 6 = .ok (.iconst 0, 1) := by decide +kernel
theorem dX5_clearText_7 : decode cX5_clearText 7 = .ok (.putfield 156, 3) := by decide +kernel
theorem dX5_clearText_10 : decode cX5_clearText 10 = .ok (.iload_n 1, 1) := by decide +kernel
theorem dX5_clearText_11 : decode cX5_clearText 11 = .ok (.ireturn, 1) := by decide +kernel
set_option maxHeartbeats 4000000 in
set_option maxRecDepth 100000 in
theorem c_X5_clearText (l : Launch) (D : va_G) (cI cC cO : ClassId) (a : Nat → Nat) (M : Mm) (res : Int32 × Mm) (sz : Nat) (h : F_X5_clearText M = some res) : Met l yX5_clearText (Cond.code yX5_clearText cX5_clearText 2 (Option.some Jvm.ClassFile.FieldType.int) :: lw_g) ({ frames := 0, cells := 0, slots := 0, locals := 0 } : Room) (va_Pc [.ref (a 0)] (pS D cI cC cO sz (wX5 a cI cC cO M))) (QI D cI cC cO (va_A (wX5 a cI cC cO M) sz) (wX5 a cI cC cO res.2) res.1) 0 0 (va_A (wX5 a cI cC cO M) sz) := by
  refine Met.ofW (cc := cX5_clearText) (maxL := 2) (ret := (Option.some Jvm.ClassFile.FieldType.int)) (by decide) rfl ?_
  intro p e s m args below meth c s₁ B hml hv
  obtain ⟨rfl, rfl, hP, hK, hD0, hN⟩ := hv
  have hx := B.exec
  have hb := B.bytes
  have hr := B.returns
  have ht : ∀ w ∈ lw_g, w.before ([.ref (a 0)] : List Value).toArray s = true := fun w hw => atoms_spec (ws := Cond.code yX5_clearText cX5_clearText 2 (Option.some Jvm.ClassFile.FieldType.int) :: lw_g) B.pre w (List.mem_cons_of_mem _ hw)
  have hown : s.vm.findClass RX5 = some m.cls := findClass_of_methodNamed B.named
  have hlocks := B.notSynchronized
  have hD := hD0.self (sz := s.heap.size)
  generalize hAe : va_A (wX5 a cI cC cO M) s.heap.size = A at hD ⊢
  have hA : ∀ q : Nat, s.heap.size ≤ q → A q := fun q hq => by rw [← hAe]; exact Or.inr hq
  have hS : va_S A s.heap s.heap [] := va_S.rf
  have hl := lv_entry ([.ref (a 0)]) (n := 2) (Nat.le_of_ble_eq_true rfl)
  rw [lg_entry_eq]
  generalize (lg_sl ([.ref (a 0)]) ++ List.replicate (2 - (lg_sl ([.ref (a 0)])).length) Slot.unset).toArray = ls at hl ⊢
  have hl : lv_has ls 2 [(0, .ref (a 0))] := hl
  unfold F_X5_clearText at h
  refine lv_aload_n hx hb dX5_clearText_0 rfl (lv_at hl 0 rfl) ?_
  refine va_get (D := D) (ci := 5) (v := .int (M 12 1)) (C := RX5) (T := TX5) (N := 23) hx hb ht i_X5 hown hK hP 0 rfl rfl 6 (by decide) (ht _ wd_542) (fun _ h9 => h9) rfl dX5_clearText_1 ?_
  refine lv_istore_n (lv' := [(1, .int (M 12 1)), (0, .ref (a 0))]) hx hb dX5_clearText_4 rfl hl (by decide) rfl (fun ls hl => ?_)
  refine lv_aload_n hx hb dX5_clearText_5 rfl (lv_at hl 1 rfl) ?_
  refine lv_iconst (v := (0 : Int32)) hx hb dX5_clearText_6 (by decide) ?_
  refine va_put (D := D) (ci := 5) (v := .int (0 : Int32)) (ty := .int) (C := RX5) (T := TX5) (N := 23) hx hb ht i_X5 tyX5 tyX5_ok nmX5 hown hK hP hD hS 0 rfl rfl 6 (by decide) (ht _ wd_542) (fun _ h9 => h9) rfl (by decide +kernel) rfl rfl (Nat.le_of_ble_eq_true rfl) dX5_clearText_7 (fun H locs hP hD hS => ?_)
  obtain ⟨M1, e2, h⟩ := sv_ok h
  have hP : va_P D classes (wX5 a cI cC cO M1) H := by rw [← e2]; exact hP
  have hD : va_D A (wX5 a cI cC cO M1) := by rw [← e2]; exact hD
  refine lv_iload_n hx hb dX5_clearText_10 rfl (lv_at hl 0 rfl) ?_
  cases h
  exact rt_i hx hb hr hlocks hS hP hK hD dX5_clearText_11
theorem dX5_sign_0 : decode cX5_sign 0 = .ok (.aload_n 0, 1) := by decide +kernel
theorem dX5_sign_1 : decode cX5_sign 1 = .ok (.getfield 160, 3) := by decide +kernel
theorem dX5_sign_4 : decode cX5_sign 4 = .ok (.aload_n 0, 1) := by decide +kernel
theorem dX5_sign_5 : decode cX5_sign 5 = .ok (.getfield 156, 3) := by decide +kernel
theorem dX5_sign_8 : decode cX5_sign 8 = .ok (.if_icmp .ge 15, 3) := by decide +kernel
theorem dX5_sign_11 : decode cX5_sign 11 = .ok (.aload_n 0, 1) := by decide +kernel
theorem dX5_sign_12 : decode cX5_sign 12 = .ok (.getfield 22, 3) := by decide +kernel
theorem dX5_sign_15 : decode cX5_sign 15 = .ok (.aload_n 0, 1) := by decide +kernel
theorem dX5_sign_16 : decode cX5_sign 16 = .ok (.getfield 160, 3) := by decide +kernel
theorem dX5_sign_19 : decode cX5_sign 19 = .ok (.caload, 1) := by decide +kernel
theorem dX5_sign_20 : decode cX5_sign 20 = .ok (.goto 4, 3) := by decide +kernel
theorem dX5_sign_23 : decode cX5_sign 23 = .ok (.iconst (-1), 1) := by decide +kernel
theorem dX5_sign_24 : decode cX5_sign 24 = .ok (.ireturn, 1) := by decide +kernel
set_option maxHeartbeats 4000000 in
set_option maxRecDepth 100000 in
theorem c_X5_sign (l : Launch) (D : va_G) (cI cC cO : ClassId) (a : Nat → Nat) (M : Mm) (res : Int32) (sz : Nat) (h : F_X5_sign M = some res) : Met l yX5_sign (Cond.code yX5_sign cX5_sign 1 (Option.some Jvm.ClassFile.FieldType.int) :: lw_g) ({ frames := 0, cells := 0, slots := 0, locals := 0 } : Room) (va_Pc [.ref (a 0)] (pS D cI cC cO sz (wX5 a cI cC cO M))) (QI D cI cC cO (va_A (wX5 a cI cC cO M) sz) (wX5 a cI cC cO M) res) 0 0 (va_A (wX5 a cI cC cO M) sz) := by
  refine Met.ofW (cc := cX5_sign) (maxL := 1) (ret := (Option.some Jvm.ClassFile.FieldType.int)) (by decide) rfl ?_
  intro p e s m args below meth c s₁ B hml hv
  obtain ⟨rfl, rfl, hP, hK, hD0, hN⟩ := hv
  have hx := B.exec
  have hb := B.bytes
  have hr := B.returns
  have ht : ∀ w ∈ lw_g, w.before ([.ref (a 0)] : List Value).toArray s = true := fun w hw => atoms_spec (ws := Cond.code yX5_sign cX5_sign 1 (Option.some Jvm.ClassFile.FieldType.int) :: lw_g) B.pre w (List.mem_cons_of_mem _ hw)
  have hown : s.vm.findClass RX5 = some m.cls := findClass_of_methodNamed B.named
  have hlocks := B.notSynchronized
  have hD := hD0.self (sz := s.heap.size)
  generalize hAe : va_A (wX5 a cI cC cO M) s.heap.size = A at hD ⊢
  have hA : ∀ q : Nat, s.heap.size ≤ q → A q := fun q hq => by rw [← hAe]; exact Or.inr hq
  have hS : va_S A s.heap s.heap [] := va_S.rf
  have hl := lv_entry ([.ref (a 0)]) (n := 1) (Nat.le_of_ble_eq_true rfl)
  rw [lg_entry_eq]
  generalize (lg_sl ([.ref (a 0)]) ++ List.replicate (1 - (lg_sl ([.ref (a 0)])).length) Slot.unset).toArray = ls at hl ⊢
  have hl : lv_has ls 1 [(0, .ref (a 0))] := hl
  unfold F_X5_sign at h
  refine lv_aload_n hx hb dX5_sign_0 rfl (lv_at hl 0 rfl) ?_
  refine va_get (D := D) (ci := 5) (v := .int (M 12 2)) (C := RX5) (T := TX5) (N := 23) hx hb ht i_X5 hown hK hP 0 rfl rfl 7 (by decide) (ht _ wd_543) (fun _ h9 => h9) rfl dX5_sign_1 ?_
  refine lv_aload_n hx hb dX5_sign_4 rfl (lv_at hl 0 rfl) ?_
  refine va_get (D := D) (ci := 5) (v := .int (M 12 1)) (C := RX5) (T := TX5) (N := 23) hx hb ht i_X5 hown hK hP 0 rfl rfl 6 (by decide) (ht _ wd_542) (fun _ h9 => h9) rfl dX5_sign_5 ?_
  refine lv_icmp_ge (tgt := 23) hx hb dX5_sign_8 (by decide) (fun c1 => ?_) (fun c1 => ?_)
  · replace h := fp c1 h
    refine lv_iconst (v := (-1 : Int32)) hx hb dX5_sign_23 (by decide) ?_
    cases h
    exact rt_i hx hb hr hlocks hS hP hK hD dX5_sign_24
  · replace h := fn c1 h
    refine lv_aload_n hx hb dX5_sign_11 rfl (lv_at hl 0 rfl) ?_
    refine va_get (D := D) (ci := 5) (v := .ref (a 5)) (C := RX5) (T := TX5) (N := 23) hx hb ht i_X5 hown hK hP 0 rfl rfl 5 (by decide) (ht _ wd_541) (fun _ h9 => h9) rfl dX5_sign_12 ?_
    refine lv_aload_n hx hb dX5_sign_15 rfl (lv_at hl 0 rfl) ?_
    refine va_get (D := D) (ci := 5) (v := .int (M 12 2)) (C := RX5) (T := TX5) (N := 23) hx hb ht i_X5 hown hK hP 0 rfl rfl 7 (by decide) (ht _ wd_543) (fun _ h9 => h9) rfl dX5_sign_16 ?_
    obtain ⟨i2, h⟩ := ck_ok h
    refine va_cald hx hb hK hP 5 1 rfl rfl i2 dX5_sign_19 ?_
    refine lv_goto (tgt := 24) hx hb dX5_sign_20 (by decide) ?_
    cases h
    exact rt_i hx hb hr hlocks hS hP hK hD dX5_sign_24
theorem dX5_readsNumber_0 : decode cX5_readsNumber 0 = .ok (.aload_n 0, 1) := by decide +kernel
theorem dX5_readsNumber_1 : decode cX5_readsNumber 1 = .ok (.getfield 160, 3) := by decide +kernel
theorem dX5_readsNumber_4 : decode cX5_readsNumber 4 = .ok (.istore_n 2, 1) := by decide +kernel
theorem dX5_readsNumber_5 : decode cX5_readsNumber 5 = .ok (.aload_n 0, 1) := by decide +kernel
theorem dX5_readsNumber_6 : decode cX5_readsNumber 6 = .ok (.getfield 26, 3) := by decide +kernel
theorem dX5_readsNumber_9 : decode cX5_readsNumber 9 = .ok (.iload_n 1, 1) := by decide +kernel
theorem dX5_readsNumber_10 : decode cX5_readsNumber 10 = .ok (.iconst 0, 1) := by decide +kernel
theorem dX5_readsNumber_11 : decode cX5_readsNumber 11 = .ok (.iastore, 1) := by decide +kernel
theorem dX5_readsNumber_12 : decode cX5_readsNumber 12 = .ok (.aload_n 0, 1) := by decide +kernel
theorem dX5_readsNumber_13 : decode cX5_readsNumber 13 = .ok (.invokevirtual 163, 3) := by decide +kernel
theorem dX5_readsNumber_16 : decode cX5_readsNumber 16 = .ok (.bipush 48, 2) := by decide +kernel
theorem dX5_readsNumber_18 : decode cX5_readsNumber 18 = .ok (.bipush 57, 2) := by decide +kernel
theorem dX5_readsNumber_20 : decode cX5_readsNumber 20 = .ok (.invokestatic 63, 3) := by decide +kernel
theorem dX5_readsNumber_23 : decode cX5_readsNumber 23 = .ok (.ifCond .eq 49, 3) := by decide +kernel
theorem dX5_readsNumber_26 : decode cX5_readsNumber 26 = .ok (.aload_n 0, 1) := by decide +kernel
theorem dX5_readsNumber_27 : decode cX5_readsNumber 27 = .ok (.getfield 160, 3) := by decide +kernel
theorem dX5_readsNumber_30 : decode cX5_readsNumber 30 = .ok (.iload_n 2, 1) := by decide +kernel
theorem dX5_readsNumber_31 : decode cX5_readsNumber 31 = .ok (.iconst 2, 1) := by decide +kernel
theorem dX5_readsNumber_32 : decode cX5_readsNumber 32 = .ok (.iadd, 1) := by decide +kernel
theorem dX5_readsNumber_33 : decode cX5_readsNumber 33 = .ok (.if_icmp .ge 39, 3) := by decide +kernel
theorem dX5_readsNumber_36 : decode cX5_readsNumber 36 = .ok (.aload_n 0, 1) := by decide +kernel
theorem dX5_readsNumber_37 : decode cX5_readsNumber 37 = .ok (.getfield 26, 3) := by decide +kernel
theorem dX5_readsNumber_40 : decode cX5_readsNumber 40 = .ok (.iload_n 1, 1) := by decide +kernel
theorem dX5_readsNumber_41 : decode cX5_readsNumber 41 = .ok (.bipush 10, 2) := by decide +kernel
theorem dX5_readsNumber_43 : decode cX5_readsNumber 43 = .ok (.aload_n 0, 1) := by decide +kernel
theorem dX5_readsNumber_44 : decode cX5_readsNumber 44 = .ok (.getfield 26, 3) := by decide +kernel
theorem dX5_readsNumber_47 : decode cX5_readsNumber 47 = .ok (.iload_n 1, 1) := by decide +kernel
theorem dX5_readsNumber_48 : decode cX5_readsNumber 48 = .ok (.iaload, 1) := by decide +kernel
theorem dX5_readsNumber_49 : decode cX5_readsNumber 49 = .ok (.imul, 1) := by decide +kernel
theorem dX5_readsNumber_50 : decode cX5_readsNumber 50 = .ok (.aload_n 0, 1) := by decide +kernel
theorem dX5_readsNumber_51 : decode cX5_readsNumber 51 = .ok (.invokevirtual 163, 3) := by decide +kernel
theorem dX5_readsNumber_54 : decode cX5_readsNumber 54 = .ok (.iadd, 1) := by decide +kernel
theorem dX5_readsNumber_55 : decode cX5_readsNumber 55 = .ok (.bipush 48, 2) := by decide +kernel
theorem dX5_readsNumber_57 : decode cX5_readsNumber 57 = .ok (.isub, 1) := by decide +kernel
theorem dX5_readsNumber_58 : decode cX5_readsNumber 58 = .ok (.iastore, 1) := by decide +kernel
theorem dX5_readsNumber_59 : decode cX5_readsNumber 59 = .ok (.aload_n 0, 1) := by decide +kernel
theorem dX5_readsNumber_60 : decode cX5_readsNumber 60 = .ok (.dup, 1) := by decide +kernel
theorem dX5_readsNumber_61 : decode cX5_readsNumber 61 = .ok (.getfield 160, 3) := by decide +kernel
theorem dX5_readsNumber_64 : decode cX5_readsNumber 64 = .ok (.iconst 1, 1) := by decide +kernel
theorem dX5_readsNumber_65 : decode cX5_readsNumber 65 = .ok (.iadd, 1) := by decide +kernel
theorem dX5_readsNumber_66 : decode cX5_readsNumber 66 = .ok (.putfield 160, 3) := by decide +kernel
theorem dX5_readsNumber_69 : decode cX5_readsNumber 69 = .ok (.goto (-57), 3) := by decide +kernel
theorem dX5_readsNumber_72 : decode cX5_readsNumber 72 = .ok (.aload_n 0, 1) := by decide +kernel
theorem dX5_readsNumber_73 : decode cX5_readsNumber 73 = .ok (.getfield 160, 3) := by decide +kernel
theorem dX5_readsNumber_76 : decode cX5_readsNumber 76 = .ok (.iload_n 2, 1) := by decide +kernel
theorem dX5_readsNumber_77 : decode cX5_readsNumber 77 = .ok (.if_icmp .le 7, 3) := by decide +kernel
theorem dX5_readsNumber_80 : decode cX5_readsNumber 80 = .ok (.iconst 1, 1) := by decide +kernel
theorem dX5_readsNumber_81 : decode cX5_readsNumber 81 = .ok (.goto 4, 3) := by decide +kernel
theorem dX5_readsNumber_84 : decode cX5_readsNumber 84 = .ok (.iconst 0, 1) := by decide +kernel
theorem dX5_readsNumber_85 : decode cX5_readsNumber 85 = .ok (.ireturn, 1) := by decide +kernel
set_option maxHeartbeats 4000000 in
set_option maxRecDepth 100000 in
theorem c_X5_readsNumber (l : Launch) (D : va_G) (cI cC cO : ClassId) (a : Nat → Nat) (M : Mm) (x1 : Int32) (res : Int32 × Mm) (sz : Nat) (h : F_X5_readsNumber M x1 = some res) : Met l yX5_readsNumber (Cond.code yX5_readsNumber cX5_readsNumber 3 (Option.some Jvm.ClassFile.FieldType.boolean) :: lw_g) ({ frames := 1, cells := 0, slots := 0, locals := 22 } : Room) (va_Pc [.ref (a 0), .int x1] (pS D cI cC cO sz (wX5 a cI cC cO M))) (QI D cI cC cO (va_A (wX5 a cI cC cO M) sz) (wX5 a cI cC cO res.2) res.1) 0 0 (va_A (wX5 a cI cC cO M) sz) := by
  refine Met.ofW (cc := cX5_readsNumber) (maxL := 3) (ret := (Option.some Jvm.ClassFile.FieldType.boolean)) (by decide) rfl ?_
  intro p e s m args below meth c s₁ B hml hv
  obtain ⟨rfl, rfl, hP, hK, hD0, hN⟩ := hv
  have hx := B.exec
  have hb := B.bytes
  have hr := B.returns
  have ht : ∀ w ∈ lw_g, w.before ([.ref (a 0), .int x1] : List Value).toArray s = true := fun w hw => atoms_spec (ws := Cond.code yX5_readsNumber cX5_readsNumber 3 (Option.some Jvm.ClassFile.FieldType.boolean) :: lw_g) B.pre w (List.mem_cons_of_mem _ hw)
  have hown : s.vm.findClass RX5 = some m.cls := findClass_of_methodNamed B.named
  have hlocks := B.notSynchronized
  have hD := hD0.self (sz := s.heap.size)
  generalize hAe : va_A (wX5 a cI cC cO M) s.heap.size = A at hD ⊢
  have hA : ∀ q : Nat, s.heap.size ≤ q → A q := fun q hq => by rw [← hAe]; exact Or.inr hq
  have hS : va_S A s.heap s.heap [] := va_S.rf
  have hl := lv_entry ([.ref (a 0), .int x1]) (n := 3) (Nat.le_of_ble_eq_true rfl)
  rw [lg_entry_eq]
  generalize (lg_sl ([.ref (a 0), .int x1]) ++ List.replicate (3 - (lg_sl ([.ref (a 0), .int x1])).length) Slot.unset).toArray = ls at hl ⊢
  have hl : lv_has ls 3 [(0, .ref (a 0)), (1, .int x1)] := hl
  have w72 : ∀ (M : Mm) (y2 : Int32) (H : Heap) (locs : List Loc) (ls : Array Slot), F_X5_readsNumber_72 M y2 = some res → va_P D classes (wX5 a cI cC cO M) H → va_D A (wX5 a cI cC cO M) → va_S A s.heap H locs → lv_has ls 3 [(0, .ref (a 0)), (2, .int y2)] → W p l e ({ frames := 1, cells := 0, slots := 0, locals := 22 } : Room) s m ([.ref (a 0), .int x1] : List Value).toArray below meth c H locs 0 0 (MQ below (QI D cI cC cO A (wX5 a cI cC cO res.2) res.1) ([.ref (a 0), .int x1] : List Value).toArray s 0 0 A) (F0 m 72 ls []) := by
    intro M y2 H locs ls h hP hD hS hl
    unfold F_X5_readsNumber_72 at h
    refine lv_aload_n hx hb dX5_readsNumber_72 rfl (lv_at hl 0 rfl) ?_
    refine va_get (D := D) (ci := 5) (v := .int (M 12 2)) (C := RX5) (T := TX5) (N := 23) hx hb ht i_X5 hown hK hP 0 rfl rfl 7 (by decide) (ht _ wd_543) (fun _ h9 => h9) rfl dX5_readsNumber_73 ?_
    refine lv_iload_n hx hb dX5_readsNumber_76 rfl (lv_at hl 1 rfl) ?_
    refine lv_icmp_le (tgt := 84) hx hb dX5_readsNumber_77 (by decide) (fun c1 => ?_) (fun c1 => ?_)
    · replace h := fp c1 h
      refine lv_iconst (v := (0 : Int32)) hx hb dX5_readsNumber_84 (by decide) ?_
      cases h
      exact rt_z (v := (0 : Int32)) hx hb hr rfl hlocks hS hP hK hD dX5_readsNumber_85
    · replace h := fn c1 h
      refine lv_iconst (v := (1 : Int32)) hx hb dX5_readsNumber_80 (by decide) ?_
      refine lv_goto (tgt := 85) hx hb dX5_readsNumber_81 (by decide) ?_
      cases h
      exact rt_z (v := (1 : Int32)) hx hb hr rfl hlocks hS hP hK hD dX5_readsNumber_85
  have w12 : ∀ (n12 : Nat) (M : Mm) (y1 y2 : Int32) (H : Heap) (locs : List Loc) (ls : Array Slot), F_X5_readsNumber_12 n12 M y1 y2 = some res → va_P D classes (wX5 a cI cC cO M) H → va_D A (wX5 a cI cC cO M) → va_S A s.heap H locs → lv_has ls 3 [(0, .ref (a 0)), (1, .int y1), (2, .int y2)] → W p l e ({ frames := 1, cells := 0, slots := 0, locals := 22 } : Room) s m ([.ref (a 0), .int x1] : List Value).toArray below meth c H locs 0 0 (MQ below (QI D cI cC cO A (wX5 a cI cC cO res.2) res.1) ([.ref (a 0), .int x1] : List Value).toArray s 0 0 A) (F0 m 12 ls []) := by
    intro n12
    induction n12 with
    | zero => intro M y1 y2 H locs ls h hP hD hS hl; exact absurd (show (none : Option (Int32 × Mm)) = some res from h) (by simp)
    | succ n12 ih12 =>
      intro M y1 y2 H locs ls h hP hD hS hl
      have h : F_X5_readsNumberB_12 (F_X5_readsNumber_12 n12) M y1 y2 = some res := h
      unfold F_X5_readsNumberB_12 at h
      refine lv_aload_n hx hb dX5_readsNumber_12 rfl (lv_at hl 0 rfl) ?_
      obtain ⟨u1, e2, h⟩ := b1_ok h
      refine cl_Vi (ws' := (wX5 a cI cC cO M)) ⟨hx, hb, hml, hown, ht⟩ (c_X5_sign l D cI cC cO a M _ _ e2) (cwv 0 ht wd_801 wd_6 wd_798 wd_800 ws_44 (by decide +kernel) rfl rfl ⟨Nat.le_of_ble_eq_true rfl, Nat.le_of_ble_eq_true rfl⟩) 5 0 rfl rfl rfl hK hP hD hS hA hN [0, 1, 2, 3, 4, 5, 6, 7, 8, 9, 10, 11, 12] [] [0, 1, 2, 3, 4, 5, 6, 7, 8, 9, 10, 11, 12] (by decide) rfl rfl (by decide) (by decide) rfl (by decide) rfl hl.1 rfl (Nat.le_of_ble_eq_true rfl) dX5_readsNumber_13 ⟨Nat.le_of_ble_eq_true rfl, Nat.le_of_ble_eq_true rfl⟩ (fun H locs hP hD hS => ?_)
      refine lv_bipush (v := (48 : Int32)) hx hb dX5_readsNumber_16 (by decide) ?_
      refine lv_bipush (v := (57 : Int32)) hx hb dX5_readsNumber_18 (by decide) ?_
      obtain ⟨u3, e4, h⟩ := b1_ok h
      refine cl_Si (ws' := (wX5 a cI cC cO M)) ⟨hx, hb, hml, hown, ht⟩ (c_X5_in l D cI cC cO u1 (48 : Int32) (57 : Int32) _ _ e4) (cwst 3 ht wd_612 wd_6 wd_610 wd_611 (by decide +kernel) rfl rfl ⟨Nat.le_of_ble_eq_true rfl, Nat.le_of_ble_eq_true rfl⟩) hK hP hD hS hA hN [] [0, 1, 2, 3, 4, 5, 6, 7, 8, 9, 10, 11, 12] [0, 1, 2, 3, 4, 5, 6, 7, 8, 9, 10, 11, 12] (by decide) rfl rfl (by decide) (by decide) rfl (by decide) rfl hl.1 rfl (Nat.le_of_ble_eq_true rfl) dX5_readsNumber_20 ⟨Nat.le_of_ble_eq_true rfl, Nat.le_of_ble_eq_true rfl⟩ (fun H locs hP hD hS => ?_)
      refine lv_if_eq (tgt := 72) hx hb dX5_readsNumber_23 (by decide) (fun c5 => ?_) (fun c5 => ?_)
      · replace h := fp c5 h
        exact w72 M y2 _ _ ls h hP hD hS (lv_sub hl [0, 2] rfl)
      · replace h := fn c5 h
        refine lv_aload_n hx hb dX5_readsNumber_26 rfl (lv_at hl 0 rfl) ?_
        refine va_get (D := D) (ci := 5) (v := .int (M 12 2)) (C := RX5) (T := TX5) (N := 23) hx hb ht i_X5 hown hK hP 0 rfl rfl 7 (by decide) (ht _ wd_543) (fun _ h9 => h9) rfl dX5_readsNumber_27 ?_
        refine lv_iload_n hx hb dX5_readsNumber_30 rfl (lv_at hl 2 rfl) ?_
        refine lv_iconst (v := (2 : Int32)) hx hb dX5_readsNumber_31 (by decide) ?_
        refine lv_iadd hx hb dX5_readsNumber_32 ?_
        refine lv_icmp_ge (tgt := 72) hx hb dX5_readsNumber_33 (by decide) (fun c6 => ?_) (fun c6 => ?_)
        · replace h := fp c6 h
          exact w72 M y2 _ _ ls h hP hD hS (lv_sub hl [0, 2] rfl)
        · replace h := fn c6 h
          refine lv_aload_n hx hb dX5_readsNumber_36 rfl (lv_at hl 0 rfl) ?_
          refine va_get (D := D) (ci := 5) (v := .ref (a 6)) (C := RX5) (T := TX5) (N := 23) hx hb ht i_X5 hown hK hP 0 rfl rfl 10 (by decide) (ht _ wd_546) (fun _ h9 => h9) rfl dX5_readsNumber_37 ?_
          refine lv_iload_n hx hb dX5_readsNumber_40 rfl (lv_at hl 1 rfl) ?_
          refine lv_bipush (v := (10 : Int32)) hx hb dX5_readsNumber_41 (by decide) ?_
          refine lv_aload_n hx hb dX5_readsNumber_43 rfl (lv_at hl 0 rfl) ?_
          refine va_get (D := D) (ci := 5) (v := .ref (a 6)) (C := RX5) (T := TX5) (N := 23) hx hb ht i_X5 hown hK hP 0 rfl rfl 10 (by decide) (ht _ wd_546) (fun _ h9 => h9) rfl dX5_readsNumber_44 ?_
          refine lv_iload_n hx hb dX5_readsNumber_47 rfl (lv_at hl 1 rfl) ?_
          obtain ⟨i7, h⟩ := ck_ok h
          refine va_iald hx hb hK hP 6 0 rfl rfl i7 dX5_readsNumber_48 ?_
          refine lv_imul hx hb dX5_readsNumber_49 ?_
          refine lv_aload_n hx hb dX5_readsNumber_50 rfl (lv_at hl 0 rfl) ?_
          obtain ⟨u8, e9, h⟩ := b1_ok h
          refine cl_Vi (ws' := (wX5 a cI cC cO M)) ⟨hx, hb, hml, hown, ht⟩ (c_X5_sign l D cI cC cO a M _ _ e9) (cwv 0 ht wd_801 wd_6 wd_798 wd_800 ws_44 (by decide +kernel) rfl rfl ⟨Nat.le_of_ble_eq_true rfl, Nat.le_of_ble_eq_true rfl⟩) 5 0 rfl rfl rfl hK hP hD hS hA hN [0, 1, 2, 3, 4, 5, 6, 7, 8, 9, 10, 11, 12] [] [0, 1, 2, 3, 4, 5, 6, 7, 8, 9, 10, 11, 12] (by decide) rfl rfl (by decide) (by decide) rfl (by decide) rfl hl.1 rfl (Nat.le_of_ble_eq_true rfl) dX5_readsNumber_51 ⟨Nat.le_of_ble_eq_true rfl, Nat.le_of_ble_eq_true rfl⟩ (fun H locs hP hD hS => ?_)
          refine lv_iadd hx hb dX5_readsNumber_54 ?_
          refine lv_bipush (v := (48 : Int32)) hx hb dX5_readsNumber_55 (by decide) ?_
          refine lv_isub hx hb dX5_readsNumber_57 ?_
          obtain ⟨i10, h⟩ := ck_ok h
          refine va_iast hx hb hK hP hD hS 6 0 rfl rfl i10 dX5_readsNumber_58 (fun H locs hP hD hS => ?_)
          obtain ⟨M11, e12, h⟩ := sv_ok h
          have hP : va_P D classes (wX5 a cI cC cO M11) H := by rw [← e12]; exact hP
          have hD : va_D A (wX5 a cI cC cO M11) := by rw [← e12]; exact hD
          refine lv_aload_n hx hb dX5_readsNumber_59 rfl (lv_at hl 0 rfl) ?_
          refine lv_dup hx hb dX5_readsNumber_60 rfl ?_
          refine va_get (D := D) (ci := 5) (v := .int (M11 12 2)) (C := RX5) (T := TX5) (N := 23) hx hb ht i_X5 hown hK hP 0 rfl rfl 7 (by decide) (ht _ wd_543) (fun _ h9 => h9) rfl dX5_readsNumber_61 ?_
          refine lv_iconst (v := (1 : Int32)) hx hb dX5_readsNumber_64 (by decide) ?_
          refine lv_iadd hx hb dX5_readsNumber_65 ?_
          refine va_put (D := D) (ci := 5) (v := .int ((M11 12 2) + (1 : Int32))) (ty := .int) (C := RX5) (T := TX5) (N := 23) hx hb ht i_X5 tyX5 tyX5_ok nmX5 hown hK hP hD hS 0 rfl rfl 7 (by decide) (ht _ wd_543) (fun _ h9 => h9) rfl (by decide +kernel) rfl rfl (Nat.le_of_ble_eq_true rfl) dX5_readsNumber_66 (fun H locs hP hD hS => ?_)
          obtain ⟨M13, e14, h⟩ := sv_ok h
          have hP : va_P D classes (wX5 a cI cC cO M13) H := by rw [← e14]; exact hP
          have hD : va_D A (wX5 a cI cC cO M13) := by rw [← e14]; exact hD
          refine lv_goto (tgt := 12) hx hb dX5_readsNumber_69 (by decide) ?_
          exact ih12 M13 y1 y2 _ _ ls h hP hD hS (lv_sub hl [0, 1, 2] rfl)
  unfold F_X5_readsNumber at h
  refine lv_aload_n hx hb dX5_readsNumber_0 rfl (lv_at hl 0 rfl) ?_
  refine va_get (D := D) (ci := 5) (v := .int (M 12 2)) (C := RX5) (T := TX5) (N := 23) hx hb ht i_X5 hown hK hP 0 rfl rfl 7 (by decide) (ht _ wd_543) (fun _ h9 => h9) rfl dX5_readsNumber_1 ?_
  refine lv_istore_n (lv' := [(2, .int (M 12 2)), (0, .ref (a 0)), (1, .int x1)]) hx hb dX5_readsNumber_4 rfl hl (by decide) rfl (fun ls hl => ?_)
  refine lv_aload_n hx hb dX5_readsNumber_5 rfl (lv_at hl 1 rfl) ?_
  refine va_get (D := D) (ci := 5) (v := .ref (a 6)) (C := RX5) (T := TX5) (N := 23) hx hb ht i_X5 hown hK hP 0 rfl rfl 10 (by decide) (ht _ wd_546) (fun _ h9 => h9) rfl dX5_readsNumber_6 ?_
  refine lv_iload_n hx hb dX5_readsNumber_9 rfl (lv_at hl 2 rfl) ?_
  refine lv_iconst (v := (0 : Int32)) hx hb dX5_readsNumber_10 (by decide) ?_
  obtain ⟨i1, h⟩ := ck_ok h
  refine va_iast hx hb hK hP hD hS 6 0 rfl rfl i1 dX5_readsNumber_11 (fun H locs hP hD hS => ?_)
  obtain ⟨M2, e3, h⟩ := sv_ok h
  have hP : va_P D classes (wX5 a cI cC cO M2) H := by rw [← e3]; exact hP
  have hD : va_D A (wX5 a cI cC cO M2) := by rw [← e3]; exact hD
  exact w12 FU M2 x1 (M 12 2) _ _ ls h hP hD hS (lv_sub hl [1, 2, 0] rfl)
theorem dX5_reads_0 : decode cX5_reads 0 = .ok (.iconst 0, 1) := by decide +kernel
theorem dX5_reads_1 : decode cX5_reads 1 = .ok (.istore_n 2, 1) := by decide +kernel
theorem dX5_reads_2 : decode cX5_reads 2 = .ok (.iload_n 2, 1) := by decide +kernel
theorem dX5_reads_3 : decode cX5_reads 3 = .ok (.iload_n 1, 1) := by decide +kernel
theorem dX5_reads_4 : decode cX5_reads 4 = .ok (.if_icmp .ge 44, 3) := by decide +kernel
theorem dX5_reads_7 : decode cX5_reads 7 = .ok (.iload_n 2, 1) := by decide +kernel
theorem dX5_reads_8 : decode cX5_reads 8 = .ok (.ifCond .le 24, 3) := by decide +kernel
theorem dX5_reads_11 : decode cX5_reads 11 = .ok (.aload_n 0, 1) := by decide +kernel
theorem dX5_reads_12 : decode cX5_reads 12 = .ok (.invokevirtual 163, 3) := by decide +kernel
theorem dX5_reads_15 : decode cX5_reads 15 = .ok (.bipush 44, 2) := by decide +kernel
theorem dX5_reads_17 : decode cX5_reads 17 = .ok (.if_icmp .eq 5, 3) := by decide +kernel
theorem dX5_reads_20 : decode cX5_reads 20 = .ok (.iconst 0, 1) := by decide +kernel
theorem dX5_reads_21 : decode cX5_reads 21 = .ok (.ireturn, 1) := by decide +kernel
theorem dX5_reads_22 : decode cX5_reads 22 = .ok (.aload_n 0, 1) := by decide +kernel
theorem dX5_reads_23 : decode cX5_reads 23 = .ok (.dup, 1) := by decide +kernel
theorem dX5_reads_24 : decode cX5_reads 24 = .ok (.getfield 160, 3) := by decide +kernel
theorem dX5_reads_27 : decode cX5_reads 27 = .ok (.iconst 1, 1) := by decide +kernel
theorem dX5_reads_28 : decode cX5_reads 28 = .ok (.iadd, 1) := by decide +kernel
theorem dX5_reads_29 : decode cX5_reads 29 = .ok (.putfield 160, 3) := by decide +kernel
theorem dX5_reads_32 : decode cX5_reads 32 = .ok (.aload_n 0, 1) := by decide +kernel
theorem dX5_reads_33 : decode cX5_reads 33 = .ok (.iload_n 2, 1) := by decide +kernel
theorem dX5_reads_34 : decode cX5_reads 34 = .ok (.invokevirtual 166, 3) := by decide +kernel
theorem dX5_reads_37 : decode cX5_reads 37 = .ok (.ifCond .ne 5, 3) := by decide +kernel
theorem dX5_reads_40 : decode cX5_reads 40 = .ok (.iconst 0, 1) := by decide +kernel
theorem dX5_reads_41 : decode cX5_reads 41 = .ok (.ireturn, 1) := by decide +kernel
theorem dX5_reads_42 : decode cX5_reads 42 = .ok (.iinc 2 1, 3) := by decide +kernel
theorem dX5_reads_45 : decode cX5_reads 45 = .ok (.goto (-43), 3) := by decide +kernel
theorem dX5_reads_48 : decode cX5_reads 48 = .ok (.aload_n 0, 1) := by decide +kernel
theorem dX5_reads_49 : decode cX5_reads 49 = .ok (.invokevirtual 163, 3) := by decide +kernel
theorem dX5_reads_52 : decode cX5_reads 52 = .ok (.bipush 59, 2) := by decide +kernel
theorem dX5_reads_54 : decode cX5_reads 54 = .ok (.if_icmp .ne 7, 3) := by decide +kernel
theorem dX5_reads_57 : decode cX5_reads 57 = .ok (.iconst 1, 1) := by decide +kernel
theorem dX5_reads_58 : decode cX5_reads 58 = .ok (.goto 4, 3) := by decide +kernel
theorem dX5_reads_61 : decode cX5_reads 61 = .ok (.iconst 0, 1) := by decide +kernel
theorem dX5_reads_62 : decode cX5_reads 62 = .ok (.istore_n 2, 1) := by decide +kernel
theorem dX5_reads_63 : decode cX5_reads 63 = .ok (.aload_n 0, 1) := by decide +kernel
theorem dX5_reads_64 : decode cX5_reads 64 = .ok (.dup, 1) := by decide +kernel
theorem dX5_reads_65 : decode cX5_reads 65 = .ok (.getfield 160, 3) := by decide +kernel
theorem dX5_reads_68 : decode cX5_reads 68 = .ok (.iload_n 2, 1) := by decide +kernel
theorem dX5_reads_69 : decode cX5_reads 69 = .ok (.ifCond .eq 7, 3) := by decide +kernel
theorem dX5_reads_72 : decode cX5_reads 72 = .ok (.iconst 1, 1) := by decide +kernel
theorem dX5_reads_73 : decode cX5_reads 73 = .ok (.goto 4, 3) := by decide +kernel
theorem dX5_reads_76 : decode cX5_reads 76 = .ok (.iconst 0, 1) := by decide +kernel
theorem dX5_reads_77 : decode cX5_reads 77 = .ok (.iadd, 1) := by decide +kernel
theorem dX5_reads_78 : decode cX5_reads 78 = .ok (.putfield 160, 3) := by decide +kernel
theorem dX5_reads_81 : decode cX5_reads 81 = .ok (.iload_n 2, 1) := by decide +kernel
theorem dX5_reads_82 : decode cX5_reads 82 = .ok (.ireturn, 1) := by decide +kernel
set_option maxHeartbeats 4000000 in
set_option maxRecDepth 100000 in
theorem c_X5_reads (l : Launch) (D : va_G) (cI cC cO : ClassId) (a : Nat → Nat) (M : Mm) (x1 : Int32) (res : Int32 × Mm) (sz : Nat) (h : F_X5_reads M x1 = some res) : Met l yX5_reads (Cond.code yX5_reads cX5_reads 3 (Option.some Jvm.ClassFile.FieldType.boolean) :: lw_g) ({ frames := 2, cells := 0, slots := 0, locals := 44 } : Room) (va_Pc [.ref (a 0), .int x1] (pS D cI cC cO sz (wX5 a cI cC cO M))) (QI D cI cC cO (va_A (wX5 a cI cC cO M) sz) (wX5 a cI cC cO res.2) res.1) 0 0 (va_A (wX5 a cI cC cO M) sz) := by
  refine Met.ofW (cc := cX5_reads) (maxL := 3) (ret := (Option.some Jvm.ClassFile.FieldType.boolean)) (by decide) rfl ?_
  intro p e s m args below meth c s₁ B hml hv
  obtain ⟨rfl, rfl, hP, hK, hD0, hN⟩ := hv
  have hx := B.exec
  have hb := B.bytes
  have hr := B.returns
  have ht : ∀ w ∈ lw_g, w.before ([.ref (a 0), .int x1] : List Value).toArray s = true := fun w hw => atoms_spec (ws := Cond.code yX5_reads cX5_reads 3 (Option.some Jvm.ClassFile.FieldType.boolean) :: lw_g) B.pre w (List.mem_cons_of_mem _ hw)
  have hown : s.vm.findClass RX5 = some m.cls := findClass_of_methodNamed B.named
  have hlocks := B.notSynchronized
  have hD := hD0.self (sz := s.heap.size)
  generalize hAe : va_A (wX5 a cI cC cO M) s.heap.size = A at hD ⊢
  have hA : ∀ q : Nat, s.heap.size ≤ q → A q := fun q hq => by rw [← hAe]; exact Or.inr hq
  have hS : va_S A s.heap s.heap [] := va_S.rf
  have hl := lv_entry ([.ref (a 0), .int x1]) (n := 3) (Nat.le_of_ble_eq_true rfl)
  rw [lg_entry_eq]
  generalize (lg_sl ([.ref (a 0), .int x1]) ++ List.replicate (3 - (lg_sl ([.ref (a 0), .int x1])).length) Slot.unset).toArray = ls at hl ⊢
  have hl : lv_has ls 3 [(0, .ref (a 0)), (1, .int x1)] := hl
  have w77 : ∀ (M : Mm) (y2 s0 s1 : Int32) (H : Heap) (locs : List Loc) (ls : Array Slot), F_X5_reads_77 M y2 s0 s1 = some res → va_P D classes (wX5 a cI cC cO M) H → va_D A (wX5 a cI cC cO M) → va_S A s.heap H locs → lv_has ls 3 [(2, .int y2)] → W p l e ({ frames := 2, cells := 0, slots := 0, locals := 44 } : Room) s m ([.ref (a 0), .int x1] : List Value).toArray below meth c H locs 0 0 (MQ below (QI D cI cC cO A (wX5 a cI cC cO res.2) res.1) ([.ref (a 0), .int x1] : List Value).toArray s 0 0 A) (F0 m 77 ls [.int s0, .int s1, .ref (a 0)]) := by
    intro M y2 s0 s1 H locs ls h hP hD hS hl
    unfold F_X5_reads_77 at h
    refine lv_iadd hx hb dX5_reads_77 ?_
    refine va_put (D := D) (ci := 5) (v := .int (s1 + s0)) (ty := .int) (C := RX5) (T := TX5) (N := 23) hx hb ht i_X5 tyX5 tyX5_ok nmX5 hown hK hP hD hS 0 rfl rfl 7 (by decide) (ht _ wd_543) (fun _ h9 => h9) rfl (by decide +kernel) rfl rfl (Nat.le_of_ble_eq_true rfl) dX5_reads_78 (fun H locs hP hD hS => ?_)
    obtain ⟨M1, e2, h⟩ := sv_ok h
    have hP : va_P D classes (wX5 a cI cC cO M1) H := by rw [← e2]; exact hP
    have hD : va_D A (wX5 a cI cC cO M1) := by rw [← e2]; exact hD
    refine lv_iload_n hx hb dX5_reads_81 rfl (lv_at hl 0 rfl) ?_
    obtain ⟨z3, h⟩ := cz_ok h
    cases h
    exact rt_z hx hb hr (nz z3) hlocks hS hP hK hD dX5_reads_82
  have w62 : ∀ (M : Mm) (s0 : Int32) (H : Heap) (locs : List Loc) (ls : Array Slot), F_X5_reads_62 M s0 = some res → va_P D classes (wX5 a cI cC cO M) H → va_D A (wX5 a cI cC cO M) → va_S A s.heap H locs → lv_has ls 3 [(0, .ref (a 0))] → W p l e ({ frames := 2, cells := 0, slots := 0, locals := 44 } : Room) s m ([.ref (a 0), .int x1] : List Value).toArray below meth c H locs 0 0 (MQ below (QI D cI cC cO A (wX5 a cI cC cO res.2) res.1) ([.ref (a 0), .int x1] : List Value).toArray s 0 0 A) (F0 m 62 ls [.int s0]) := by
    intro M s0 H locs ls h hP hD hS hl
    unfold F_X5_reads_62 at h
    refine lv_istore_n (lv' := [(2, .int s0), (0, .ref (a 0))]) hx hb dX5_reads_62 rfl hl (by decide) rfl (fun ls hl => ?_)
    refine lv_aload_n hx hb dX5_reads_63 rfl (lv_at hl 1 rfl) ?_
    refine lv_dup hx hb dX5_reads_64 rfl ?_
    refine va_get (D := D) (ci := 5) (v := .int (M 12 2)) (C := RX5) (T := TX5) (N := 23) hx hb ht i_X5 hown hK hP 0 rfl rfl 7 (by decide) (ht _ wd_543) (fun _ h9 => h9) rfl dX5_reads_65 ?_
    refine lv_iload_n hx hb dX5_reads_68 rfl (lv_at hl 0 rfl) ?_
    refine lv_if_eq (tgt := 76) hx hb dX5_reads_69 (by decide) (fun c1 => ?_) (fun c1 => ?_)
    · replace h := fp c1 h
      refine lv_iconst (v := (0 : Int32)) hx hb dX5_reads_76 (by decide) ?_
      exact w77 M s0 (0 : Int32) (M 12 2) _ _ ls h hP hD hS (lv_sub hl [0] rfl)
    · replace h := fn c1 h
      refine lv_iconst (v := (1 : Int32)) hx hb dX5_reads_72 (by decide) ?_
      refine lv_goto (tgt := 77) hx hb dX5_reads_73 (by decide) ?_
      exact w77 M s0 (1 : Int32) (M 12 2) _ _ ls h hP hD hS (lv_sub hl [0] rfl)
  have w2 : ∀ (n2 : Nat) (M : Mm) (y1 y2 : Int32) (H : Heap) (locs : List Loc) (ls : Array Slot), F_X5_reads_2 n2 M y1 y2 = some res → va_P D classes (wX5 a cI cC cO M) H → va_D A (wX5 a cI cC cO M) → va_S A s.heap H locs → lv_has ls 3 [(0, .ref (a 0)), (1, .int y1), (2, .int y2)] → W p l e ({ frames := 2, cells := 0, slots := 0, locals := 44 } : Room) s m ([.ref (a 0), .int x1] : List Value).toArray below meth c H locs 0 0 (MQ below (QI D cI cC cO A (wX5 a cI cC cO res.2) res.1) ([.ref (a 0), .int x1] : List Value).toArray s 0 0 A) (F0 m 2 ls []) := by
    intro n2
    induction n2 with
    | zero => intro M y1 y2 H locs ls h hP hD hS hl; exact absurd (show (none : Option (Int32 × Mm)) = some res from h) (by simp)
    | succ n2 ih2 =>
      have w32 : ∀ (M : Mm) (y1 y2 : Int32) (H : Heap) (locs : List Loc) (ls : Array Slot), F_X5_reads_32 (F_X5_reads_2 n2) M y1 y2 = some res → va_P D classes (wX5 a cI cC cO M) H → va_D A (wX5 a cI cC cO M) → va_S A s.heap H locs → lv_has ls 3 [(0, .ref (a 0)), (1, .int y1), (2, .int y2)] → W p l e ({ frames := 2, cells := 0, slots := 0, locals := 44 } : Room) s m ([.ref (a 0), .int x1] : List Value).toArray below meth c H locs 0 0 (MQ below (QI D cI cC cO A (wX5 a cI cC cO res.2) res.1) ([.ref (a 0), .int x1] : List Value).toArray s 0 0 A) (F0 m 32 ls []) := by
        intro M y1 y2 H locs ls h hP hD hS hl
        unfold F_X5_reads_32 at h
        refine lv_aload_n hx hb dX5_reads_32 rfl (lv_at hl 0 rfl) ?_
        refine lv_iload_n hx hb dX5_reads_33 rfl (lv_at hl 2 rfl) ?_
        obtain ⟨u1, M2, e3, h⟩ := b2_ok h
        refine cl_Vi (ws' := (wX5 a cI cC cO M2)) ⟨hx, hb, hml, hown, ht⟩ (c_X5_readsNumber l D cI cC cO a M y2 _ _ e3) (cwv 1 ht wd_809 wd_6 wd_806 wd_808 ws_46 (by decide +kernel) rfl rfl ⟨Nat.le_of_ble_eq_true rfl, Nat.le_of_ble_eq_true rfl⟩) 5 0 rfl rfl rfl hK hP hD hS hA hN [0, 1, 2, 3, 4, 5, 6, 7, 8, 9, 10, 11, 12] [] [0, 1, 2, 3, 4, 5, 6, 7, 8, 9, 10, 11, 12] (by decide) rfl rfl (by decide) (by decide) rfl (by decide) rfl hl.1 rfl (Nat.le_of_ble_eq_true rfl) dX5_reads_34 ⟨Nat.le_of_ble_eq_true rfl, Nat.le_of_ble_eq_true rfl⟩ (fun H locs hP hD hS => ?_)
        refine lv_if_ne (tgt := 42) hx hb dX5_reads_37 (by decide) (fun c4 => ?_) (fun c4 => ?_)
        · replace h := fn c4 h
          refine lv_iinc (v := (y2 + 1)) (lv' := [(2, .int (y2 + 1)), (0, .ref (a 0)), (1, .int y1)]) hx hb dX5_reads_42 hl (k := 2) rfl rfl (by decide) rfl (fun ls hl => ?_)
          refine lv_goto (tgt := 2) hx hb dX5_reads_45 (by decide) ?_
          exact ih2 M2 y1 (y2 + 1) _ _ ls h hP hD hS (lv_sub hl [1, 2, 0] rfl)
        · replace h := fp c4 h
          refine lv_iconst (v := (0 : Int32)) hx hb dX5_reads_40 (by decide) ?_
          cases h
          exact rt_z (v := (0 : Int32)) hx hb hr rfl hlocks hS hP hK hD dX5_reads_41
      intro M y1 y2 H locs ls h hP hD hS hl
      have h : F_X5_readsB_2 (F_X5_reads_2 n2) M y1 y2 = some res := h
      unfold F_X5_readsB_2 at h
      refine lv_iload_n hx hb dX5_reads_2 rfl (lv_at hl 2 rfl) ?_
      refine lv_iload_n hx hb dX5_reads_3 rfl (lv_at hl 1 rfl) ?_
      refine lv_icmp_ge (tgt := 48) hx hb dX5_reads_4 (by decide) (fun c1 => ?_) (fun c1 => ?_)
      · replace h := fp c1 h
        refine lv_aload_n hx hb dX5_reads_48 rfl (lv_at hl 0 rfl) ?_
        obtain ⟨u2, e3, h⟩ := b1_ok h
        refine cl_Vi (ws' := (wX5 a cI cC cO M)) ⟨hx, hb, hml, hown, ht⟩ (c_X5_sign l D cI cC cO a M _ _ e3) (cwv 0 ht wd_801 wd_6 wd_798 wd_800 ws_44 (by decide +kernel) rfl rfl ⟨Nat.le_of_ble_eq_true rfl, Nat.le_of_ble_eq_true rfl⟩) 5 0 rfl rfl rfl hK hP hD hS hA hN [0, 1, 2, 3, 4, 5, 6, 7, 8, 9, 10, 11, 12] [] [0, 1, 2, 3, 4, 5, 6, 7, 8, 9, 10, 11, 12] (by decide) rfl rfl (by decide) (by decide) rfl (by decide) rfl hl.1 rfl (Nat.le_of_ble_eq_true rfl) dX5_reads_49 ⟨Nat.le_of_ble_eq_true rfl, Nat.le_of_ble_eq_true rfl⟩ (fun H locs hP hD hS => ?_)
        refine lv_bipush (v := (59 : Int32)) hx hb dX5_reads_52 (by decide) ?_
        refine lv_icmp_ne (tgt := 61) hx hb dX5_reads_54 (by decide) (fun c4 => ?_) (fun c4 => ?_)
        · replace h := fn c4 h
          refine lv_iconst (v := (0 : Int32)) hx hb dX5_reads_61 (by decide) ?_
          exact w62 M (0 : Int32) _ _ ls h hP hD hS (lv_sub hl [0] rfl)
        · replace h := fp c4 h
          refine lv_iconst (v := (1 : Int32)) hx hb dX5_reads_57 (by decide) ?_
          refine lv_goto (tgt := 62) hx hb dX5_reads_58 (by decide) ?_
          exact w62 M (1 : Int32) _ _ ls h hP hD hS (lv_sub hl [0] rfl)
      · replace h := fn c1 h
        refine lv_iload_n hx hb dX5_reads_7 rfl (lv_at hl 2 rfl) ?_
        refine lv_if_le (tgt := 32) hx hb dX5_reads_8 (by decide) (fun c5 => ?_) (fun c5 => ?_)
        · replace h := fp c5 h
          exact w32 M y1 y2 _ _ ls h hP hD hS (lv_sub hl [0, 1, 2] rfl)
        · replace h := fn c5 h
          refine lv_aload_n hx hb dX5_reads_11 rfl (lv_at hl 0 rfl) ?_
          obtain ⟨u6, e7, h⟩ := b1_ok h
          refine cl_Vi (ws' := (wX5 a cI cC cO M)) ⟨hx, hb, hml, hown, ht⟩ (c_X5_sign l D cI cC cO a M _ _ e7) (cwv 0 ht wd_801 wd_6 wd_798 wd_800 ws_44 (by decide +kernel) rfl rfl ⟨Nat.le_of_ble_eq_true rfl, Nat.le_of_ble_eq_true rfl⟩) 5 0 rfl rfl rfl hK hP hD hS hA hN [0, 1, 2, 3, 4, 5, 6, 7, 8, 9, 10, 11, 12] [] [0, 1, 2, 3, 4, 5, 6, 7, 8, 9, 10, 11, 12] (by decide) rfl rfl (by decide) (by decide) rfl (by decide) rfl hl.1 rfl (Nat.le_of_ble_eq_true rfl) dX5_reads_12 ⟨Nat.le_of_ble_eq_true rfl, Nat.le_of_ble_eq_true rfl⟩ (fun H locs hP hD hS => ?_)
          refine lv_bipush (v := (44 : Int32)) hx hb dX5_reads_15 (by decide) ?_
          refine lv_icmp_eq (tgt := 22) hx hb dX5_reads_17 (by decide) (fun c8 => ?_) (fun c8 => ?_)
          · replace h := fp c8 h
            refine lv_aload_n hx hb dX5_reads_22 rfl (lv_at hl 0 rfl) ?_
            refine lv_dup hx hb dX5_reads_23 rfl ?_
            refine va_get (D := D) (ci := 5) (v := .int (M 12 2)) (C := RX5) (T := TX5) (N := 23) hx hb ht i_X5 hown hK hP 0 rfl rfl 7 (by decide) (ht _ wd_543) (fun _ h9 => h9) rfl dX5_reads_24 ?_
            refine lv_iconst (v := (1 : Int32)) hx hb dX5_reads_27 (by decide) ?_
            refine lv_iadd hx hb dX5_reads_28 ?_
            refine va_put (D := D) (ci := 5) (v := .int ((M 12 2) + (1 : Int32))) (ty := .int) (C := RX5) (T := TX5) (N := 23) hx hb ht i_X5 tyX5 tyX5_ok nmX5 hown hK hP hD hS 0 rfl rfl 7 (by decide) (ht _ wd_543) (fun _ h9 => h9) rfl (by decide +kernel) rfl rfl (Nat.le_of_ble_eq_true rfl) dX5_reads_29 (fun H locs hP hD hS => ?_)
            obtain ⟨M9, e10, h⟩ := sv_ok h
            have hP : va_P D classes (wX5 a cI cC cO M9) H := by rw [← e10]; exact hP
            have hD : va_D A (wX5 a cI cC cO M9) := by rw [← e10]; exact hD
            exact w32 M9 y1 y2 _ _ ls h hP hD hS (lv_sub hl [0, 1, 2] rfl)
          · replace h := fn c8 h
            refine lv_iconst (v := (0 : Int32)) hx hb dX5_reads_20 (by decide) ?_
            cases h
            exact rt_z (v := (0 : Int32)) hx hb hr rfl hlocks hS hP hK hD dX5_reads_21
  unfold F_X5_reads at h
  refine lv_iconst (v := (0 : Int32)) hx hb dX5_reads_0 (by decide) ?_
  refine lv_istore_n (lv' := [(2, .int (0 : Int32)), (0, .ref (a 0)), (1, .int x1)]) hx hb dX5_reads_1 rfl hl (by decide) rfl (fun ls hl => ?_)
  exact w2 FU M x1 (0 : Int32) _ _ ls h hP hD hS (lv_sub hl [1, 2, 0] rfl)
theorem dX5_isRight_0 : decode cX5_isRight 0 = .ok (.aload_n 0, 1) := by decide +kernel
theorem dX5_isRight_1 : decode cX5_isRight 1 = .ok (.getfield 26, 3) := by decide +kernel
theorem dX5_isRight_4 : decode cX5_isRight 4 = .ok (.iload_n 2, 1) := by decide +kernel
theorem dX5_isRight_5 : decode cX5_isRight 5 = .ok (.iaload, 1) := by decide +kernel
theorem dX5_isRight_6 : decode cX5_isRight 6 = .ok (.istore_n 3, 1) := by decide +kernel
theorem dX5_isRight_7 : decode cX5_isRight 7 = .ok (.iload_n 1, 1) := by decide +kernel
theorem dX5_isRight_8 : decode cX5_isRight 8 = .ok (.lookupswitch 133 #[(104, 36), (111, 113), (112, 53)], 36) := by decide +kernel
theorem dX5_isRight_44 : decode cX5_isRight 44 = .ok (.iload_n 3, 1) := by decide +kernel
theorem dX5_isRight_45 : decode cX5_isRight 45 = .ok (.iconst 0, 1) := by decide +kernel
theorem dX5_isRight_46 : decode cX5_isRight 46 = .ok (.iload_n 2, 1) := by decide +kernel
theorem dX5_isRight_47 : decode cX5_isRight 47 = .ok (.ifCond .ne 8, 3) := by decide +kernel
theorem dX5_isRight_50 : decode cX5_isRight 50 = .ok (.bipush 20, 2) := by decide +kernel
theorem dX5_isRight_52 : decode cX5_isRight 52 = .ok (.goto 5, 3) := by decide +kernel
theorem dX5_isRight_55 : decode cX5_isRight 55 = .ok (.bipush 40, 2) := by decide +kernel
theorem dX5_isRight_57 : decode cX5_isRight 57 = .ok (.invokestatic 63, 3) := by decide +kernel
theorem dX5_isRight_60 : decode cX5_isRight 60 = .ok (.ireturn, 1) := by decide +kernel
theorem dX5_isRight_61 : decode cX5_isRight 61 = .ok (.iload_n 2, 1) := by decide +kernel
theorem dX5_isRight_62 : decode cX5_isRight 62 = .ok (.ifCond .ne 11, 3) := by decide +kernel
theorem dX5_isRight_65 : decode cX5_isRight 65 = .ok (.aload_n 0, 1) := by decide +kernel
theorem dX5_isRight_66 : decode cX5_isRight 66 = .ok (.iload_n 3, 1) := by decide +kernel
theorem dX5_isRight_67 : decode cX5_isRight 67 = .ok (.invokevirtual 83, 3) := by decide +kernel
theorem dX5_isRight_70 : decode cX5_isRight 70 = .ok (.goto 50, 3) := by decide +kernel
theorem dX5_isRight_73 : decode cX5_isRight 73 = .ok (.iload_n 2, 1) := by decide +kernel
theorem dX5_isRight_74 : decode cX5_isRight 74 = .ok (.iconst 1, 1) := by decide +kernel
theorem dX5_isRight_75 : decode cX5_isRight 75 = .ok (.if_icmp .ne 29, 3) := by decide +kernel
theorem dX5_isRight_78 : decode cX5_isRight 78 = .ok (.aload_n 0, 1) := by decide +kernel
theorem dX5_isRight_79 : decode cX5_isRight 79 = .ok (.iload_n 3, 1) := by decide +kernel
theorem dX5_isRight_80 : decode cX5_isRight 80 = .ok (.invokevirtual 83, 3) := by decide +kernel
theorem dX5_isRight_83 : decode cX5_isRight 83 = .ok (.ifCond .eq 17, 3) := by decide +kernel
theorem dX5_isRight_86 : decode cX5_isRight 86 = .ok (.iload_n 3, 1) := by decide +kernel
theorem dX5_isRight_87 : decode cX5_isRight 87 = .ok (.aload_n 0, 1) := by decide +kernel
theorem dX5_isRight_88 : decode cX5_isRight 88 = .ok (.getfield 26, 3) := by decide +kernel
theorem dX5_isRight_91 : decode cX5_isRight 91 = .ok (.iconst 0, 1) := by decide +kernel
theorem dX5_isRight_92 : decode cX5_isRight 92 = .ok (.iaload, 1) := by decide +kernel
theorem dX5_isRight_93 : decode cX5_isRight 93 = .ok (.if_icmp .eq 7, 3) := by decide +kernel
theorem dX5_isRight_96 : decode cX5_isRight 96 = .ok (.iconst 1, 1) := by decide +kernel
theorem dX5_isRight_97 : decode cX5_isRight 97 = .ok (.goto 23, 3) := by decide +kernel
theorem dX5_isRight_100 : decode cX5_isRight 100 = .ok (.iconst 0, 1) := by decide +kernel
theorem dX5_isRight_101 : decode cX5_isRight 101 = .ok (.goto 19, 3) := by decide +kernel
theorem dX5_isRight_104 : decode cX5_isRight 104 = .ok (.iload_n 3, 1) := by decide +kernel
theorem dX5_isRight_105 : decode cX5_isRight 105 = .ok (.iconst 1, 1) := by decide +kernel
theorem dX5_isRight_106 : decode cX5_isRight 106 = .ok (.iload_n 2, 1) := by decide +kernel
theorem dX5_isRight_107 : decode cX5_isRight 107 = .ok (.iconst 2, 1) := by decide +kernel
theorem dX5_isRight_108 : decode cX5_isRight 108 = .ok (.if_icmp .ne 7, 3) := by decide +kernel
theorem dX5_isRight_111 : decode cX5_isRight 111 = .ok (.iconst 4, 1) := by decide +kernel
theorem dX5_isRight_112 : decode cX5_isRight 112 = .ok (.goto 5, 3) := by decide +kernel
theorem dX5_isRight_115 : decode cX5_isRight 115 = .ok (.bipush 9, 2) := by decide +kernel
theorem dX5_isRight_117 : decode cX5_isRight 117 = .ok (.invokestatic 63, 3) := by decide +kernel
theorem dX5_isRight_120 : decode cX5_isRight 120 = .ok (.ireturn, 1) := by decide +kernel
theorem dX5_isRight_121 : decode cX5_isRight 121 = .ok (.iload_n 2, 1) := by decide +kernel
theorem dX5_isRight_122 : decode cX5_isRight 122 = .ok (.ifCond .ne 11, 3) := by decide +kernel
theorem dX5_isRight_125 : decode cX5_isRight 125 = .ok (.aload_n 0, 1) := by decide +kernel
theorem dX5_isRight_126 : decode cX5_isRight 126 = .ok (.iload_n 3, 1) := by decide +kernel
theorem dX5_isRight_127 : decode cX5_isRight 127 = .ok (.invokevirtual 91, 3) := by decide +kernel
theorem dX5_isRight_130 : decode cX5_isRight 130 = .ok (.goto 10, 3) := by decide +kernel
theorem dX5_isRight_133 : decode cX5_isRight 133 = .ok (.iload_n 3, 1) := by decide +kernel
theorem dX5_isRight_134 : decode cX5_isRight 134 = .ok (.iconst 0, 1) := by decide +kernel
theorem dX5_isRight_135 : decode cX5_isRight 135 = .ok (.bipush 15, 2) := by decide +kernel
theorem dX5_isRight_137 : decode cX5_isRight 137 = .ok (.invokestatic 63, 3) := by decide +kernel
theorem dX5_isRight_140 : decode cX5_isRight 140 = .ok (.ireturn, 1) := by decide +kernel
theorem dX5_isRight_141 : decode cX5_isRight 141 = .ok (.iload_n 2, 1) := by decide +kernel
theorem dX5_isRight_142 : decode cX5_isRight 142 = .ok (.ifCond .ne 11, 3) := by decide +kernel
theorem dX5_isRight_145 : decode cX5_isRight 145 = .ok (.aload_n 0, 1) := by decide +kernel
theorem dX5_isRight_146 : decode cX5_isRight 146 = .ok (.iload_n 3, 1) := by decide +kernel
theorem dX5_isRight_147 : decode cX5_isRight 147 = .ok (.invokevirtual 83, 3) := by decide +kernel
theorem dX5_isRight_150 : decode cX5_isRight 150 = .ok (.goto 10, 3) := by decide +kernel
theorem dX5_isRight_153 : decode cX5_isRight 153 = .ok (.iload_n 3, 1) := by decide +kernel
theorem dX5_isRight_154 : decode cX5_isRight 154 = .ok (.iconst 0, 1) := by decide +kernel
theorem dX5_isRight_155 : decode cX5_isRight 155 = .ok (.bipush 20, 2) := by decide +kernel
theorem dX5_isRight_157 : decode cX5_isRight 157 = .ok (.invokestatic 63, 3) := by decide +kernel
theorem dX5_isRight_160 : decode cX5_isRight 160 = .ok (.ireturn, 1) := by decide +kernel
set_option maxHeartbeats 4000000 in
set_option maxRecDepth 100000 in
theorem c_X5_isRight (l : Launch) (D : va_G) (cI cC cO : ClassId) (a : Nat → Nat) (M : Mm) (x1 x2 : Int32) (res : Int32) (sz : Nat) (h : F_X5_isRight M x1 x2 = some res) : Met l yX5_isRight (Cond.code yX5_isRight cX5_isRight 4 (Option.some Jvm.ClassFile.FieldType.boolean) :: lw_g) ({ frames := 2, cells := 0, slots := 0, locals := 43 } : Room) (va_Pc [.ref (a 0), .int x1, .int x2] (pS D cI cC cO sz (wX5 a cI cC cO M))) (QI D cI cC cO (va_A (wX5 a cI cC cO M) sz) (wX5 a cI cC cO M) res) 0 0 (va_A (wX5 a cI cC cO M) sz) := by
  refine Met.ofW (cc := cX5_isRight) (maxL := 4) (ret := (Option.some Jvm.ClassFile.FieldType.boolean)) (by decide) rfl ?_
  intro p e s m args below meth c s₁ B hml hv
  obtain ⟨rfl, rfl, hP, hK, hD0, hN⟩ := hv
  have hx := B.exec
  have hb := B.bytes
  have hr := B.returns
  have ht : ∀ w ∈ lw_g, w.before ([.ref (a 0), .int x1, .int x2] : List Value).toArray s = true := fun w hw => atoms_spec (ws := Cond.code yX5_isRight cX5_isRight 4 (Option.some Jvm.ClassFile.FieldType.boolean) :: lw_g) B.pre w (List.mem_cons_of_mem _ hw)
  have hown : s.vm.findClass RX5 = some m.cls := findClass_of_methodNamed B.named
  have hlocks := B.notSynchronized
  have hD := hD0.self (sz := s.heap.size)
  generalize hAe : va_A (wX5 a cI cC cO M) s.heap.size = A at hD ⊢
  have hA : ∀ q : Nat, s.heap.size ≤ q → A q := fun q hq => by rw [← hAe]; exact Or.inr hq
  have hS : va_S A s.heap s.heap [] := va_S.rf
  have hl := lv_entry ([.ref (a 0), .int x1, .int x2]) (n := 4) (Nat.le_of_ble_eq_true rfl)
  rw [lg_entry_eq]
  generalize (lg_sl ([.ref (a 0), .int x1, .int x2]) ++ List.replicate (4 - (lg_sl ([.ref (a 0), .int x1, .int x2])).length) Slot.unset).toArray = ls at hl ⊢
  have hl : lv_has ls 4 [(0, .ref (a 0)), (1, .int x1), (2, .int x2)] := hl
  have w57 : ∀ (s0 s1 s2 : Int32) (H : Heap) (locs : List Loc) (ls : Array Slot), F_X5_isRight_57 M s0 s1 s2 = some res → va_P D classes (wX5 a cI cC cO M) H → va_D A (wX5 a cI cC cO M) → va_S A s.heap H locs → lv_has ls 4 [] → W p l e ({ frames := 2, cells := 0, slots := 0, locals := 43 } : Room) s m ([.ref (a 0), .int x1, .int x2] : List Value).toArray below meth c H locs 0 0 (MQ below (QI D cI cC cO A (wX5 a cI cC cO M) res) ([.ref (a 0), .int x1, .int x2] : List Value).toArray s 0 0 A) (F0 m 57 ls [.int s0, .int s1, .int s2]) := by
    intro s0 s1 s2 H locs ls h hP hD hS hl
    unfold F_X5_isRight_57 at h
    obtain ⟨u1, e2, h⟩ := b1_ok h
    refine cl_Si (ws' := (wX5 a cI cC cO M)) ⟨hx, hb, hml, hown, ht⟩ (c_X5_in l D cI cC cO s2 s1 s0 _ _ e2) (cwst 3 ht wd_612 wd_6 wd_610 wd_611 (by decide +kernel) rfl rfl ⟨Nat.le_of_ble_eq_true rfl, Nat.le_of_ble_eq_true rfl⟩) hK hP hD hS hA hN [] [0, 1, 2, 3, 4, 5, 6, 7, 8, 9, 10, 11, 12] [0, 1, 2, 3, 4, 5, 6, 7, 8, 9, 10, 11, 12] (by decide) rfl rfl (by decide) (by decide) rfl (by decide) rfl hl.1 rfl (Nat.le_of_ble_eq_true rfl) dX5_isRight_57 ⟨Nat.le_of_ble_eq_true rfl, Nat.le_of_ble_eq_true rfl⟩ (fun H locs hP hD hS => ?_)
    obtain ⟨z3, h⟩ := cz_ok h
    cases h
    exact rt_z hx hb hr (nz z3) hlocks hS hP hK hD dX5_isRight_60
  have w117 : ∀ (s0 s1 s2 : Int32) (H : Heap) (locs : List Loc) (ls : Array Slot), F_X5_isRight_117 M s0 s1 s2 = some res → va_P D classes (wX5 a cI cC cO M) H → va_D A (wX5 a cI cC cO M) → va_S A s.heap H locs → lv_has ls 4 [] → W p l e ({ frames := 2, cells := 0, slots := 0, locals := 43 } : Room) s m ([.ref (a 0), .int x1, .int x2] : List Value).toArray below meth c H locs 0 0 (MQ below (QI D cI cC cO A (wX5 a cI cC cO M) res) ([.ref (a 0), .int x1, .int x2] : List Value).toArray s 0 0 A) (F0 m 117 ls [.int s0, .int s1, .int s2]) := by
    intro s0 s1 s2 H locs ls h hP hD hS hl
    unfold F_X5_isRight_117 at h
    obtain ⟨u1, e2, h⟩ := b1_ok h
    refine cl_Si (ws' := (wX5 a cI cC cO M)) ⟨hx, hb, hml, hown, ht⟩ (c_X5_in l D cI cC cO s2 s1 s0 _ _ e2) (cwst 3 ht wd_612 wd_6 wd_610 wd_611 (by decide +kernel) rfl rfl ⟨Nat.le_of_ble_eq_true rfl, Nat.le_of_ble_eq_true rfl⟩) hK hP hD hS hA hN [] [0, 1, 2, 3, 4, 5, 6, 7, 8, 9, 10, 11, 12] [0, 1, 2, 3, 4, 5, 6, 7, 8, 9, 10, 11, 12] (by decide) rfl rfl (by decide) (by decide) rfl (by decide) rfl hl.1 rfl (Nat.le_of_ble_eq_true rfl) dX5_isRight_117 ⟨Nat.le_of_ble_eq_true rfl, Nat.le_of_ble_eq_true rfl⟩ (fun H locs hP hD hS => ?_)
    obtain ⟨z3, h⟩ := cz_ok h
    cases h
    exact rt_z hx hb hr (nz z3) hlocks hS hP hK hD dX5_isRight_120
  unfold F_X5_isRight at h
  refine lv_aload_n hx hb dX5_isRight_0 rfl (lv_at hl 0 rfl) ?_
  refine va_get (D := D) (ci := 5) (v := .ref (a 6)) (C := RX5) (T := TX5) (N := 23) hx hb ht i_X5 hown hK hP 0 rfl rfl 10 (by decide) (ht _ wd_546) (fun _ h9 => h9) rfl dX5_isRight_1 ?_
  refine lv_iload_n hx hb dX5_isRight_4 rfl (lv_at hl 2 rfl) ?_
  obtain ⟨i1, h⟩ := ck_ok h
  refine va_iald hx hb hK hP 6 0 rfl rfl i1 dX5_isRight_5 ?_
  refine lv_istore_n (lv' := [(3, .int (M 5 x2.toNatClampNeg)), (0, .ref (a 0)), (1, .int x1), (2, .int x2)]) hx hb dX5_isRight_6 rfl hl (by decide) rfl (fun ls hl => ?_)
  refine lv_iload_n hx hb dX5_isRight_7 rfl (lv_at hl 2 rfl) ?_
  by_cases c2 : x1 = (104 : Int32)
  · replace h := fp c2 h
    refine lv_lookup (off := 36) (tgt := 44) hx hb dX5_isRight_8 (by decide) (by rw [c2]; decide) (by decide) ?_
    refine lv_iload_n hx hb dX5_isRight_44 rfl (lv_at hl 0 rfl) ?_
    refine lv_iconst (v := (0 : Int32)) hx hb dX5_isRight_45 (by decide) ?_
    refine lv_iload_n hx hb dX5_isRight_46 rfl (lv_at hl 3 rfl) ?_
    refine lv_if_ne (tgt := 55) hx hb dX5_isRight_47 (by decide) (fun c3 => ?_) (fun c3 => ?_)
    · replace h := fn c3 h
      refine lv_bipush (v := (40 : Int32)) hx hb dX5_isRight_55 (by decide) ?_
      exact w57 (40 : Int32) (0 : Int32) (M 5 x2.toNatClampNeg) _ _ ls h hP hD hS (lv_sub hl [] rfl)
    · replace h := fp c3 h
      refine lv_bipush (v := (20 : Int32)) hx hb dX5_isRight_50 (by decide) ?_
      refine lv_goto (tgt := 57) hx hb dX5_isRight_52 (by decide) ?_
      exact w57 (20 : Int32) (0 : Int32) (M 5 x2.toNatClampNeg) _ _ ls h hP hD hS (lv_sub hl [] rfl)
  · replace h := fn c2 h
    by_cases c4 : x1 = (111 : Int32)
    · replace h := fp c4 h
      refine lv_lookup (off := 113) (tgt := 121) hx hb dX5_isRight_8 (by decide) (by rw [c4]; decide) (by decide) ?_
      refine lv_iload_n hx hb dX5_isRight_121 rfl (lv_at hl 3 rfl) ?_
      refine lv_if_ne (tgt := 133) hx hb dX5_isRight_122 (by decide) (fun c5 => ?_) (fun c5 => ?_)
      · replace h := fn c5 h
        refine lv_iload_n hx hb dX5_isRight_133 rfl (lv_at hl 0 rfl) ?_
        refine lv_iconst (v := (0 : Int32)) hx hb dX5_isRight_134 (by decide) ?_
        refine lv_bipush (v := (15 : Int32)) hx hb dX5_isRight_135 (by decide) ?_
        obtain ⟨u6, e7, h⟩ := b1_ok h
        refine cl_Si (ws' := (wX5 a cI cC cO M)) ⟨hx, hb, hml, hown, ht⟩ (c_X5_in l D cI cC cO (M 5 x2.toNatClampNeg) (0 : Int32) (15 : Int32) _ _ e7) (cwst 3 ht wd_612 wd_6 wd_610 wd_611 (by decide +kernel) rfl rfl ⟨Nat.le_of_ble_eq_true rfl, Nat.le_of_ble_eq_true rfl⟩) hK hP hD hS hA hN [] [0, 1, 2, 3, 4, 5, 6, 7, 8, 9, 10, 11, 12] [0, 1, 2, 3, 4, 5, 6, 7, 8, 9, 10, 11, 12] (by decide) rfl rfl (by decide) (by decide) rfl (by decide) rfl hl.1 rfl (Nat.le_of_ble_eq_true rfl) dX5_isRight_137 ⟨Nat.le_of_ble_eq_true rfl, Nat.le_of_ble_eq_true rfl⟩ (fun H locs hP hD hS => ?_)
        obtain ⟨z8, h⟩ := cz_ok h
        cases h
        exact rt_z hx hb hr (nz z8) hlocks hS hP hK hD dX5_isRight_140
      · replace h := fp c5 h
        refine lv_aload_n hx hb dX5_isRight_125 rfl (lv_at hl 1 rfl) ?_
        refine lv_iload_n hx hb dX5_isRight_126 rfl (lv_at hl 0 rfl) ?_
        obtain ⟨u9, e10, h⟩ := b1_ok h
        refine cl_Vi (ws' := (wX5 a cI cC cO M)) ⟨hx, hb, hml, hown, ht⟩ (c_X5_isPipe l D cI cC cO a M (M 5 x2.toNatClampNeg) _ _ e10) (cwv 1 ht wd_646 wd_6 wd_643 wd_645 ws_25 (by decide +kernel) rfl rfl ⟨Nat.le_of_ble_eq_true rfl, Nat.le_of_ble_eq_true rfl⟩) 5 0 rfl rfl rfl hK hP hD hS hA hN [0, 1, 2, 3, 4, 5, 6, 7, 8, 9, 10, 11, 12] [] [0, 1, 2, 3, 4, 5, 6, 7, 8, 9, 10, 11, 12] (by decide) rfl rfl (by decide) (by decide) rfl (by decide) rfl hl.1 rfl (Nat.le_of_ble_eq_true rfl) dX5_isRight_127 ⟨Nat.le_of_ble_eq_true rfl, Nat.le_of_ble_eq_true rfl⟩ (fun H locs hP hD hS => ?_)
        refine lv_goto (tgt := 140) hx hb dX5_isRight_130 (by decide) ?_
        obtain ⟨z11, h⟩ := cz_ok h
        cases h
        exact rt_z hx hb hr (nz z11) hlocks hS hP hK hD dX5_isRight_140
    · replace h := fn c4 h
      by_cases c12 : x1 = (112 : Int32)
      · replace h := fp c12 h
        refine lv_lookup (off := 53) (tgt := 61) hx hb dX5_isRight_8 (by decide) (by rw [c12]; decide) (by decide) ?_
        refine lv_iload_n hx hb dX5_isRight_61 rfl (lv_at hl 3 rfl) ?_
        refine lv_if_ne (tgt := 73) hx hb dX5_isRight_62 (by decide) (fun c13 => ?_) (fun c13 => ?_)
        · replace h := fn c13 h
          refine lv_iload_n hx hb dX5_isRight_73 rfl (lv_at hl 3 rfl) ?_
          refine lv_iconst (v := (1 : Int32)) hx hb dX5_isRight_74 (by decide) ?_
          refine lv_icmp_ne (tgt := 104) hx hb dX5_isRight_75 (by decide) (fun c14 => ?_) (fun c14 => ?_)
          · replace h := fn c14 h
            refine lv_iload_n hx hb dX5_isRight_104 rfl (lv_at hl 0 rfl) ?_
            refine lv_iconst (v := (1 : Int32)) hx hb dX5_isRight_105 (by decide) ?_
            refine lv_iload_n hx hb dX5_isRight_106 rfl (lv_at hl 3 rfl) ?_
            refine lv_iconst (v := (2 : Int32)) hx hb dX5_isRight_107 (by decide) ?_
            refine lv_icmp_ne (tgt := 115) hx hb dX5_isRight_108 (by decide) (fun c15 => ?_) (fun c15 => ?_)
            · replace h := fn c15 h
              refine lv_bipush (v := (9 : Int32)) hx hb dX5_isRight_115 (by decide) ?_
              exact w117 (9 : Int32) (1 : Int32) (M 5 x2.toNatClampNeg) _ _ ls h hP hD hS (lv_sub hl [] rfl)
            · replace h := fp c15 h
              refine lv_iconst (v := (4 : Int32)) hx hb dX5_isRight_111 (by decide) ?_
              refine lv_goto (tgt := 117) hx hb dX5_isRight_112 (by decide) ?_
              exact w117 (4 : Int32) (1 : Int32) (M 5 x2.toNatClampNeg) _ _ ls h hP hD hS (lv_sub hl [] rfl)
          · replace h := fp c14 h
            refine lv_aload_n hx hb dX5_isRight_78 rfl (lv_at hl 1 rfl) ?_
            refine lv_iload_n hx hb dX5_isRight_79 rfl (lv_at hl 0 rfl) ?_
            obtain ⟨u16, e17, h⟩ := b1_ok h
            refine cl_Vi (ws' := (wX5 a cI cC cO M)) ⟨hx, hb, hml, hown, ht⟩ (c_X5_isPlace l D cI cC cO a M (M 5 x2.toNatClampNeg) _ _ e17) (cwv 1 ht wd_634 wd_6 wd_631 wd_633 ws_23 (by decide +kernel) rfl rfl ⟨Nat.le_of_ble_eq_true rfl, Nat.le_of_ble_eq_true rfl⟩) 5 0 rfl rfl rfl hK hP hD hS hA hN [0, 1, 2, 3, 4, 5, 6, 7, 8, 9, 10, 11, 12] [] [0, 1, 2, 3, 4, 5, 6, 7, 8, 9, 10, 11, 12] (by decide) rfl rfl (by decide) (by decide) rfl (by decide) rfl hl.1 rfl (Nat.le_of_ble_eq_true rfl) dX5_isRight_80 ⟨Nat.le_of_ble_eq_true rfl, Nat.le_of_ble_eq_true rfl⟩ (fun H locs hP hD hS => ?_)
            refine lv_if_eq (tgt := 100) hx hb dX5_isRight_83 (by decide) (fun c18 => ?_) (fun c18 => ?_)
            · replace h := fp c18 h
              refine lv_iconst (v := (0 : Int32)) hx hb dX5_isRight_100 (by decide) ?_
              refine lv_goto (tgt := 120) hx hb dX5_isRight_101 (by decide) ?_
              cases h
              exact rt_z (v := (0 : Int32)) hx hb hr rfl hlocks hS hP hK hD dX5_isRight_120
            · replace h := fn c18 h
              refine lv_iload_n hx hb dX5_isRight_86 rfl (lv_at hl 0 rfl) ?_
              refine lv_aload_n hx hb dX5_isRight_87 rfl (lv_at hl 1 rfl) ?_
              refine va_get (D := D) (ci := 5) (v := .ref (a 6)) (C := RX5) (T := TX5) (N := 23) hx hb ht i_X5 hown hK hP 0 rfl rfl 10 (by decide) (ht _ wd_546) (fun _ h9 => h9) rfl dX5_isRight_88 ?_
              refine lv_iconst (v := (0 : Int32)) hx hb dX5_isRight_91 (by decide) ?_
              obtain ⟨i19, h⟩ := ck_ok h
              refine va_iald hx hb hK hP 6 0 rfl rfl i19 dX5_isRight_92 ?_
              refine lv_icmp_eq (tgt := 100) hx hb dX5_isRight_93 (by decide) (fun c20 => ?_) (fun c20 => ?_)
              · replace h := fp c20 h
                refine lv_iconst (v := (0 : Int32)) hx hb dX5_isRight_100 (by decide) ?_
                refine lv_goto (tgt := 120) hx hb dX5_isRight_101 (by decide) ?_
                cases h
                exact rt_z (v := (0 : Int32)) hx hb hr rfl hlocks hS hP hK hD dX5_isRight_120
              · replace h := fn c20 h
                refine lv_iconst (v := (1 : Int32)) hx hb dX5_isRight_96 (by decide) ?_
                refine lv_goto (tgt := 120) hx hb dX5_isRight_97 (by decide) ?_
                cases h
                exact rt_z (v := (1 : Int32)) hx hb hr rfl hlocks hS hP hK hD dX5_isRight_120
        · replace h := fp c13 h
          refine lv_aload_n hx hb dX5_isRight_65 rfl (lv_at hl 1 rfl) ?_
          refine lv_iload_n hx hb dX5_isRight_66 rfl (lv_at hl 0 rfl) ?_
          obtain ⟨u21, e22, h⟩ := b1_ok h
          refine cl_Vi (ws' := (wX5 a cI cC cO M)) ⟨hx, hb, hml, hown, ht⟩ (c_X5_isPlace l D cI cC cO a M (M 5 x2.toNatClampNeg) _ _ e22) (cwv 1 ht wd_634 wd_6 wd_631 wd_633 ws_23 (by decide +kernel) rfl rfl ⟨Nat.le_of_ble_eq_true rfl, Nat.le_of_ble_eq_true rfl⟩) 5 0 rfl rfl rfl hK hP hD hS hA hN [0, 1, 2, 3, 4, 5, 6, 7, 8, 9, 10, 11, 12] [] [0, 1, 2, 3, 4, 5, 6, 7, 8, 9, 10, 11, 12] (by decide) rfl rfl (by decide) (by decide) rfl (by decide) rfl hl.1 rfl (Nat.le_of_ble_eq_true rfl) dX5_isRight_67 ⟨Nat.le_of_ble_eq_true rfl, Nat.le_of_ble_eq_true rfl⟩ (fun H locs hP hD hS => ?_)
          refine lv_goto (tgt := 120) hx hb dX5_isRight_70 (by decide) ?_
          obtain ⟨z23, h⟩ := cz_ok h
          cases h
          exact rt_z hx hb hr (nz z23) hlocks hS hP hK hD dX5_isRight_120
      · replace h := fn c12 h
        refine lv_lookup (off := 133) (tgt := 141) hx hb dX5_isRight_8 (by decide) (by simp only [lookupswitch.offset_cons, lookupswitch.offset_nil, Array.toList]; rw [if_neg (lk_ne (k := 104) (by decide) c2), if_neg (lk_ne (k := 111) (by decide) c4), if_neg (lk_ne (k := 112) (by decide) c12)] <;> rfl) (by decide) ?_
        refine lv_iload_n hx hb dX5_isRight_141 rfl (lv_at hl 3 rfl) ?_
        refine lv_if_ne (tgt := 153) hx hb dX5_isRight_142 (by decide) (fun c24 => ?_) (fun c24 => ?_)
        · replace h := fn c24 h
          refine lv_iload_n hx hb dX5_isRight_153 rfl (lv_at hl 0 rfl) ?_
          refine lv_iconst (v := (0 : Int32)) hx hb dX5_isRight_154 (by decide) ?_
          refine lv_bipush (v := (20 : Int32)) hx hb dX5_isRight_155 (by decide) ?_
          obtain ⟨u25, e26, h⟩ := b1_ok h
          refine cl_Si (ws' := (wX5 a cI cC cO M)) ⟨hx, hb, hml, hown, ht⟩ (c_X5_in l D cI cC cO (M 5 x2.toNatClampNeg) (0 : Int32) (20 : Int32) _ _ e26) (cwst 3 ht wd_612 wd_6 wd_610 wd_611 (by decide +kernel) rfl rfl ⟨Nat.le_of_ble_eq_true rfl, Nat.le_of_ble_eq_true rfl⟩) hK hP hD hS hA hN [] [0, 1, 2, 3, 4, 5, 6, 7, 8, 9, 10, 11, 12] [0, 1, 2, 3, 4, 5, 6, 7, 8, 9, 10, 11, 12] (by decide) rfl rfl (by decide) (by decide) rfl (by decide) rfl hl.1 rfl (Nat.le_of_ble_eq_true rfl) dX5_isRight_157 ⟨Nat.le_of_ble_eq_true rfl, Nat.le_of_ble_eq_true rfl⟩ (fun H locs hP hD hS => ?_)
          obtain ⟨z27, h⟩ := cz_ok h
          cases h
          exact rt_z hx hb hr (nz z27) hlocks hS hP hK hD dX5_isRight_160
        · replace h := fp c24 h
          refine lv_aload_n hx hb dX5_isRight_145 rfl (lv_at hl 1 rfl) ?_
          refine lv_iload_n hx hb dX5_isRight_146 rfl (lv_at hl 0 rfl) ?_
          obtain ⟨u28, e29, h⟩ := b1_ok h
          refine cl_Vi (ws' := (wX5 a cI cC cO M)) ⟨hx, hb, hml, hown, ht⟩ (c_X5_isPlace l D cI cC cO a M (M 5 x2.toNatClampNeg) _ _ e29) (cwv 1 ht wd_634 wd_6 wd_631 wd_633 ws_23 (by decide +kernel) rfl rfl ⟨Nat.le_of_ble_eq_true rfl, Nat.le_of_ble_eq_true rfl⟩) 5 0 rfl rfl rfl hK hP hD hS hA hN [0, 1, 2, 3, 4, 5, 6, 7, 8, 9, 10, 11, 12] [] [0, 1, 2, 3, 4, 5, 6, 7, 8, 9, 10, 11, 12] (by decide) rfl rfl (by decide) (by decide) rfl (by decide) rfl hl.1 rfl (Nat.le_of_ble_eq_true rfl) dX5_isRight_147 ⟨Nat.le_of_ble_eq_true rfl, Nat.le_of_ble_eq_true rfl⟩ (fun H locs hP hD hS => ?_)
          refine lv_goto (tgt := 160) hx hb dX5_isRight_150 (by decide) ?_
          obtain ⟨z30, h⟩ := cz_ok h
          cases h
          exact rt_z hx hb hr (nz z30) hlocks hS hP hK hD dX5_isRight_160
