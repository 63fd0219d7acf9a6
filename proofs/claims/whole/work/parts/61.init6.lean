/-- a fresh model's words -/
def M0p (V : Mm) : Prop := (∀ a, a ≠ 1 → ∀ j, V a j = 0) ∧ ∀ j, j < 256 → V 1 j = nI 3

set_option maxHeartbeats 4000000 in
set_option maxRecDepth 100000 in
theorem c_X6_init (l : Launch) (D : va_G) (cs : Nat → ClassId) (h sz : Nat) : MetC TrX l yX6_init wsX6_init ({ frames := 1, cells := 6, slots := 1276, locals := 30 }) cs D h (.inr (6, [.int 0, .null, .null, .null, .null, .null, .int 0, .null])) sz (fun u : (Nat → Nat) × Mm => u.1 0 = h ∧ M0p u.2) (fun u => gw kM cs u.1 u.2) 6 1276 := by
  refine l_met (X := TrX) (cc := cX6_init) (maxL := 2) (ret := none) (by decide) rfl (Nat.le_of_ble_eq_true rfl) ?_
  intro pg e s m args below meth c ls hx hb hr hml hts hown hmn hlocks hsz hP hD hK hN hS hA hl _
  have hown : s.vm.findClass RX6 = some m.cls := hown
  have hmn : meth.name = "<init>" := hmn
  have hl : lv_has ls 2 [(0, .ref h)] := hl
  refine lv_aload_n hx hb dX6_init_0 rfl (lv_at hl 0 rfl) ?_
  refine W.objInit hx hb hown (hts _ (List.mem_of_getElem? (i := 1) rfl)) (hts _ (List.mem_of_getElem? (i := 2) rfl)) (hts _ (List.mem_of_getElem? (i := 3) rfl)) rfl (by rw [hml]; exact hl.1) rfl dX6_init_1 (Nat.le_of_ble_eq_true rfl) (Nat.le_of_ble_eq_true rfl) ?_
  refine lv_aload_n hx hb dX6_init_4 rfl (lv_at hl 0 rfl) ?_
  refine lv_sipush (v := nI 256) hx hb dX6_init_5 (by decide) ?_
  refine r_newI (n := 256) hx hb (hts _ (List.mem_of_getElem? (i := 4) rfl)) hK hP hD hS hA (by decide) (Nat.le_of_ble_eq_true rfl) (Nat.le_of_ble_eq_true rfl) (Nat.le_of_ble_eq_true rfl) dX6_init_8 (fun q1 H hP hD hS => ?_)
  refine va_put (ci := 6) (v := .ref q1) (ty := .array .int) (C := RX6) (T := TX6) (N := 8) hx hb hts (fun _ h => List.mem_cons_of_mem _ (List.mem_append_right _ h)) tyX6 tyX6_ok nmX6 hown hK hP hD hS 0 rfl rfl 1 (by decide) (hts _ (List.mem_of_getElem? (i := 5) rfl)) (fun _ h9 => h9) rfl (tyX6_ok 1 (by decide)) rfl rfl (Nat.le_of_ble_eq_true rfl) dX6_init_10 (fun H locs hP hD hS => ?_)
  have hP : va_P D vwCl [(h, .inr (6, [.int 0, .ref q1, .null, .null, .null, .null, .int 0, .null])), (q1, .inl (cs 0, 256, .inl (fun _ => 0)))] H := hP
  have hD : va_D (va_A [(h, (.inr (6, [.int 0, .null, .null, .null, .null, .null, .int 0, .null])))] sz) [(h, .inr (6, [.int 0, .ref q1, .null, .null, .null, .null, .int 0, .null])), (q1, .inl (cs 0, 256, .inl (fun _ => 0)))] := hD
  refine lv_aload_n hx hb dX6_init_13 rfl (lv_at hl 0 rfl) ?_
  refine lv_sipush (v := nI 256) hx hb dX6_init_14 (by decide) ?_
  refine r_newI (n := 256) hx hb (hts _ (List.mem_of_getElem? (i := 4) rfl)) hK hP hD hS hA (by decide) (Nat.le_of_ble_eq_true rfl) (Nat.le_of_ble_eq_true rfl) (Nat.le_of_ble_eq_true rfl) dX6_init_17 (fun q2 H hP hD hS => ?_)
  refine va_put (ci := 6) (v := .ref q2) (ty := .array .int) (C := RX6) (T := TX6) (N := 8) hx hb hts (fun _ h => List.mem_cons_of_mem _ (List.mem_append_right _ h)) tyX6 tyX6_ok nmX6 hown hK hP hD hS 0 rfl rfl 2 (by decide) (hts _ (List.mem_of_getElem? (i := 6) rfl)) (fun _ h9 => h9) rfl (tyX6_ok 2 (by decide)) rfl rfl (Nat.le_of_ble_eq_true rfl) dX6_init_19 (fun H locs hP hD hS => ?_)
  have hP : va_P D vwCl [(h, .inr (6, [.int 0, .ref q1, .ref q2, .null, .null, .null, .int 0, .null])), (q1, .inl (cs 0, 256, .inl (fun _ => 0))), (q2, .inl (cs 0, 256, .inl (fun _ => 0)))] H := hP
  have hD : va_D (va_A [(h, (.inr (6, [.int 0, .null, .null, .null, .null, .null, .int 0, .null])))] sz) [(h, .inr (6, [.int 0, .ref q1, .ref q2, .null, .null, .null, .int 0, .null])), (q1, .inl (cs 0, 256, .inl (fun _ => 0))), (q2, .inl (cs 0, 256, .inl (fun _ => 0)))] := hD
  refine lv_aload_n hx hb dX6_init_22 rfl (lv_at hl 0 rfl) ?_
  refine lv_sipush (v := nI 256) hx hb dX6_init_23 (by decide) ?_
  refine r_newI (n := 256) hx hb (hts _ (List.mem_of_getElem? (i := 4) rfl)) hK hP hD hS hA (by decide) (Nat.le_of_ble_eq_true rfl) (Nat.le_of_ble_eq_true rfl) (Nat.le_of_ble_eq_true rfl) dX6_init_26 (fun q3 H hP hD hS => ?_)
  refine va_put (ci := 6) (v := .ref q3) (ty := .array .int) (C := RX6) (T := TX6) (N := 8) hx hb hts (fun _ h => List.mem_cons_of_mem _ (List.mem_append_right _ h)) tyX6 tyX6_ok nmX6 hown hK hP hD hS 0 rfl rfl 3 (by decide) (hts _ (List.mem_of_getElem? (i := 7) rfl)) (fun _ h9 => h9) rfl (tyX6_ok 3 (by decide)) rfl rfl (Nat.le_of_ble_eq_true rfl) dX6_init_28 (fun H locs hP hD hS => ?_)
  have hP : va_P D vwCl [(h, .inr (6, [.int 0, .ref q1, .ref q2, .ref q3, .null, .null, .int 0, .null])), (q1, .inl (cs 0, 256, .inl (fun _ => 0))), (q2, .inl (cs 0, 256, .inl (fun _ => 0))), (q3, .inl (cs 0, 256, .inl (fun _ => 0)))] H := hP
  have hD : va_D (va_A [(h, (.inr (6, [.int 0, .null, .null, .null, .null, .null, .int 0, .null])))] sz) [(h, .inr (6, [.int 0, .ref q1, .ref q2, .ref q3, .null, .null, .int 0, .null])), (q1, .inl (cs 0, 256, .inl (fun _ => 0))), (q2, .inl (cs 0, 256, .inl (fun _ => 0))), (q3, .inl (cs 0, 256, .inl (fun _ => 0)))] := hD
  refine lv_aload_n hx hb dX6_init_31 rfl (lv_at hl 0 rfl) ?_
  refine lv_sipush (v := nI 248) hx hb dX6_init_32 (by decide) ?_
  refine r_newI (n := 248) hx hb (hts _ (List.mem_of_getElem? (i := 4) rfl)) hK hP hD hS hA (by decide) (Nat.le_of_ble_eq_true rfl) (Nat.le_of_ble_eq_true rfl) (Nat.le_of_ble_eq_true rfl) dX6_init_35 (fun q4 H hP hD hS => ?_)
  refine va_put (ci := 6) (v := .ref q4) (ty := .array .int) (C := RX6) (T := TX6) (N := 8) hx hb hts (fun _ h => List.mem_cons_of_mem _ (List.mem_append_right _ h)) tyX6 tyX6_ok nmX6 hown hK hP hD hS 0 rfl rfl 4 (by decide) (hts _ (List.mem_of_getElem? (i := 8) rfl)) (fun _ h9 => h9) rfl (tyX6_ok 4 (by decide)) rfl rfl (Nat.le_of_ble_eq_true rfl) dX6_init_37 (fun H locs hP hD hS => ?_)
  have hP : va_P D vwCl [(h, .inr (6, [.int 0, .ref q1, .ref q2, .ref q3, .ref q4, .null, .int 0, .null])), (q1, .inl (cs 0, 256, .inl (fun _ => 0))), (q2, .inl (cs 0, 256, .inl (fun _ => 0))), (q3, .inl (cs 0, 256, .inl (fun _ => 0))), (q4, .inl (cs 0, 248, .inl (fun _ => 0)))] H := hP
  have hD : va_D (va_A [(h, (.inr (6, [.int 0, .null, .null, .null, .null, .null, .int 0, .null])))] sz) [(h, .inr (6, [.int 0, .ref q1, .ref q2, .ref q3, .ref q4, .null, .int 0, .null])), (q1, .inl (cs 0, 256, .inl (fun _ => 0))), (q2, .inl (cs 0, 256, .inl (fun _ => 0))), (q3, .inl (cs 0, 256, .inl (fun _ => 0))), (q4, .inl (cs 0, 248, .inl (fun _ => 0)))] := hD
  refine lv_aload_n hx hb dX6_init_40 rfl (lv_at hl 0 rfl) ?_
  refine lv_iconst (v := nI 4) hx hb dX6_init_41 (by decide) ?_
  refine r_newI (n := 4) hx hb (hts _ (List.mem_of_getElem? (i := 4) rfl)) hK hP hD hS hA (by decide) (Nat.le_of_ble_eq_true rfl) (Nat.le_of_ble_eq_true rfl) (Nat.le_of_ble_eq_true rfl) dX6_init_42 (fun q5 H hP hD hS => ?_)
  refine va_put (ci := 6) (v := .ref q5) (ty := .array .int) (C := RX6) (T := TX6) (N := 8) hx hb hts (fun _ h => List.mem_cons_of_mem _ (List.mem_append_right _ h)) tyX6 tyX6_ok nmX6 hown hK hP hD hS 0 rfl rfl 5 (by decide) (hts _ (List.mem_of_getElem? (i := 9) rfl)) (fun _ h9 => h9) rfl (tyX6_ok 5 (by decide)) rfl rfl (Nat.le_of_ble_eq_true rfl) dX6_init_44 (fun H locs hP hD hS => ?_)
  have hP : va_P D vwCl [(h, .inr (6, [.int 0, .ref q1, .ref q2, .ref q3, .ref q4, .ref q5, .int 0, .null])), (q1, .inl (cs 0, 256, .inl (fun _ => 0))), (q2, .inl (cs 0, 256, .inl (fun _ => 0))), (q3, .inl (cs 0, 256, .inl (fun _ => 0))), (q4, .inl (cs 0, 248, .inl (fun _ => 0))), (q5, .inl (cs 0, 4, .inl (fun _ => 0)))] H := hP
  have hD : va_D (va_A [(h, (.inr (6, [.int 0, .null, .null, .null, .null, .null, .int 0, .null])))] sz) [(h, .inr (6, [.int 0, .ref q1, .ref q2, .ref q3, .ref q4, .ref q5, .int 0, .null])), (q1, .inl (cs 0, 256, .inl (fun _ => 0))), (q2, .inl (cs 0, 256, .inl (fun _ => 0))), (q3, .inl (cs 0, 256, .inl (fun _ => 0))), (q4, .inl (cs 0, 248, .inl (fun _ => 0))), (q5, .inl (cs 0, 4, .inl (fun _ => 0)))] := hD
  refine lv_aload_n hx hb dX6_init_47 rfl (lv_at hl 0 rfl) ?_
  refine lv_sipush (v := nI 256) hx hb dX6_init_48 (by decide) ?_
  refine r_newI (n := 256) hx hb (hts _ (List.mem_of_getElem? (i := 4) rfl)) hK hP hD hS hA (by decide) (Nat.le_of_ble_eq_true rfl) (Nat.le_of_ble_eq_true rfl) (Nat.le_of_ble_eq_true rfl) dX6_init_51 (fun q6 H hP hD hS => ?_)
  refine va_putF (ci := 6) (v := .ref q6) (ty := .array .int) (C := RX6) (T := TX6) (N := 8) hx hb hts (fun _ h => List.mem_cons_of_mem _ (List.mem_append_right _ h)) tyX6 tyX6_ok nmX6 hown hK hP hD hS 0 rfl rfl 7 (by decide) (hts _ (List.mem_of_getElem? (i := 10) rfl)) (fun _ h9 => h9) rfl hmn rfl (tyX6_ok 7 (by decide)) rfl rfl (Nat.le_of_ble_eq_true rfl) dX6_init_53 (fun H locs hP hD hS => ?_)
  have hP : va_P D vwCl [(h, .inr (6, [.int 0, .ref q1, .ref q2, .ref q3, .ref q4, .ref q5, .int 0, .ref q6])), (q1, .inl (cs 0, 256, .inl (fun _ => 0))), (q2, .inl (cs 0, 256, .inl (fun _ => 0))), (q3, .inl (cs 0, 256, .inl (fun _ => 0))), (q4, .inl (cs 0, 248, .inl (fun _ => 0))), (q5, .inl (cs 0, 4, .inl (fun _ => 0))), (q6, .inl (cs 0, 256, .inl (fun _ => 0)))] H := hP
  have hD : va_D (va_A [(h, (.inr (6, [.int 0, .null, .null, .null, .null, .null, .int 0, .null])))] sz) [(h, .inr (6, [.int 0, .ref q1, .ref q2, .ref q3, .ref q4, .ref q5, .int 0, .ref q6])), (q1, .inl (cs 0, 256, .inl (fun _ => 0))), (q2, .inl (cs 0, 256, .inl (fun _ => 0))), (q3, .inl (cs 0, 256, .inl (fun _ => 0))), (q4, .inl (cs 0, 248, .inl (fun _ => 0))), (q5, .inl (cs 0, 4, .inl (fun _ => 0))), (q6, .inl (cs 0, 256, .inl (fun _ => 0)))] := hD
  generalize hade : (fun i => ([h, q1, q2, q3, q4, q5, q6] : List Nat).getD i 0) = ad
  have hP : va_P D vwCl (gw kM cs ad (fun _ _ => 0)) H := by rw [← hade]; exact hP
  have hD : va_D (va_A [(h, (.inr (6, [.int 0, .null, .null, .null, .null, .null, .int 0, .null])))] sz) (gw kM cs ad (fun _ _ => 0)) := by rw [← hade]; exact hD
  have hh : h = ad 0 := by rw [← hade]; rfl
  refine lv_iconst (v := nI 0) hx hb dX6_init_56 (by decide) ?_
  refine lv_istore_n (lv' := [(1, .int (nI 0)), (0, .ref h)]) hx hb dX6_init_57 rfl hl (by decide) rfl (fun ls hl => ?_)
  refine W.widen (k := 6) (n := 1276) (Nat.le_of_ble_eq_true rfl) (Nat.le_of_ble_eq_true rfl) ?_
  suffices KL : ∀ (fuel : Nat) (i : Nat) (v : Mm) (H : Heap) (locs : List Loc) (ls : Array Slot), i ≤ 256 → ((∀ a, a ≠ 1 → ∀ j, v a j = 0) ∧ ∀ j, j < i → v 1 j = nI 3) → 256 - i < fuel → va_P D vwCl (gw kM cs ad v) H → va_D (va_A [(h, (.inr (6, [.int 0, .null, .null, .null, .null, .null, .int 0, .null])))] sz) (gw kM cs ad v) → va_S (va_A [(h, (.inr (6, [.int 0, .null, .null, .null, .null, .null, .int 0, .null])))] sz) s.heap H locs → lv_has ls 2 [(1, .int (nI i)), (0, .ref h)] → W pg l e ({ frames := 1, cells := 6, slots := 1276, locals := 30 }) s m args below meth c H locs 6 1276 (MQ below (va_Qv (fun u : (Nat → Nat) × Mm => u.1 0 = h ∧ M0p u.2) (fun u t => va_P D vwCl (gw kM cs u.1 u.2) t.heap ∧ va_D (va_A [(h, (.inr (6, [.int 0, .null, .null, .null, .null, .null, .int 0, .null])))] sz) (gw kM cs u.1 u.2)) (va_A [(h, (.inr (6, [.int 0, .null, .null, .null, .null, .null, .int 0, .null])))] sz)) args s 6 1276 (va_A [(h, (.inr (6, [.int 0, .null, .null, .null, .null, .null, .int 0, .null])))] sz)) (F0 m 58 ls []) from KL _ 0 (fun _ _ => 0) _ _ _ (Nat.zero_le _) ⟨fun _ _ _ => rfl, fun j hj => absurd hj (Nat.not_lt_zero _)⟩ (Nat.lt_succ_self _) hP hD hS hl
  intro fuel
  induction fuel with
  | zero => intro _ _ _ _ _ _ _ hm; exact absurd hm (Nat.not_lt_zero _)
  | succ fuel ih =>
    intro i v H locs ls hi hv hm hP hD hS hl
    refine lv_iload_n hx hb dX6_init_58 rfl (lv_at hl 0 rfl) ?_
    refine lv_sipush (v := nI 256) hx hb dX6_init_59 (by decide) ?_
    refine lv_icmp_ge (tgt := 78) hx hb dX6_init_62 (by decide) (fun c_1 => ?_) (fun c_1 => ?_)
    · have n1 : 256 ≤ i := (nI_leI (a := 256) (b := i) (by omega) (by omega)).mp c_1
      exact c_vret (Wf := fun u : (Nat → Nat) × Mm => gw kM cs u.1 u.2) (ad, v) hx hb hr hlocks hP hD hS ⟨hh.symm, hv.1, fun j hj => hv.2 j (by omega)⟩ dX6_init_78
    · have n1 : ¬ 256 ≤ i := fun z => c_1 ((nI_leI (a := 256) (b := i) (by omega) (by omega)).mpr z)
      refine lv_aload_n hx hb dX6_init_65 rfl (lv_at hl 1 rfl) ?_
      rw [hh]
      refine g_get (κ := 10) (ci := 6) (v := .ref (ad (0 + 1))) (C := RX6) (T := TX6) (N := 8) hx hb hts hown hK hP (k := 0) rfl (by decide) rfl (fun _ h => List.mem_cons_of_mem _ (List.mem_append_right _ h)) rfl 1 (by decide) (hts _ (List.mem_of_getElem? (i := 5) rfl)) (fun _ h9 => h9) rfl dX6_init_66 ?_
      rw [← hh]
      refine lv_iload_n hx hb dX6_init_69 rfl (lv_at hl 0 rfl) ?_
      refine lv_iconst (v := nI 3) hx hb dX6_init_70 (by decide) ?_
      refine g_iastn (n := 256) (i := i) hx hb hK hP hD hS (k := 0 + 1) (kd_10_1 (k := 0) rfl) (by decide) (fun _ => rfl) (by omega) (by decide) dX6_init_71 (fun u H locs hu hP hD hS => ?_)
      refine lv_iinc (v := nI (i + 1)) (lv' := [(1, .int (nI (i + 1))), (0, .ref h)]) hx hb dX6_init_72 hl (k := 0) rfl (nI_1 i) (by decide) rfl (fun ls hl => ?_)
      refine lv_goto (tgt := 58) hx hb dX6_init_75 (by decide) ?_
      refine ih (i + 1) u _ _ _ (by omega) ?_ (by omega) hP hD hS hl
      rw [hu]
      refine ⟨fun a ha j => by rw [wr_n _ _ _ ha]; exact hv.1 a ha j, fun j hj => ?_⟩
      by_cases g : j = i
      · rw [g]; exact wr_ss _ _ _ _
      · rw [show (0 + 1 : Nat) = 1 from rfl, wr_sn _ _ _ g]; exact hv.2 j (by omega)

