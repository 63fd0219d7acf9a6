theorem P_cell {D : va_G} {cl : List vw_C} {ws : va_W} {H : Heap} {i0 a n : Nat} {cA : ClassId} {f g : Nat → Option Nat} (hi : ws[i0]? = some (a, rfA f cA n)) (hfg : ∀ j, j < n → f j = g j) (hP : va_P D cl ws H) : va_P D cl (ws.set i0 (a, rfA g cA n)) H := fun k q hk => by
  by_cases e : k = i0
  · subst e
    rw [List.getElem?_set_self (List.getElem?_eq_some_iff.mp hi).1] at hk
    cases hk
    have h1 := hP k _ hi
    have e2 : vp_cell cA (n, .inr (.inr (.inr (.inr f)))) = vp_cell cA (n, .inr (.inr (.inr (.inr g)))) := by
      rw [vp_cell_q, vp_cell_q]
      unfold arrV
      congr 1
      apply Array.ext
      · simp
      · intro i h1 h2
        simp only [Array.getElem_ofFn]
        rw [hfg i (by simpa using h1)]
    show H[a]? = some (vp_cell cA _)
    rw [← e2]
    exact h1
  · rw [List.getElem?_set_ne (Ne.symm e)] at hk
    exact hP k q hk
theorem app_set2 {L E Z : va_W} {x y : Nat × va_E} : ((L ++ x :: E) ++ Z).set L.length y = L ++ y :: (E ++ Z) := by
  rw [List.append_assoc, List.set_append_right _ _ (Nat.le_refl _), Nat.sub_self]; rfl
abbrev AOX (U : State) : Prop := va_AO "SnowMaze$Tunneller" U
/-- a fresh maze's words -/
abbrev mz0 : Mm := fun k => match k with | 2 => flF (nI 3) | 6 => flF (-1) | _ => fun _ => 0
abbrev mzL (cs : Nat → ClassId) (h qs s1 s2 s3 qr r1 r2 qc : Nat) : va_W := [(h, .inr (0, [.ref qs, .ref qr, .ref qc, .int 0, .int 0, .int 0, .int 0])), (qs, .inr (3, [.ref s1, .ref s2, .ref s3])), (s1, .inl (cs 0, 256, .inl (flF (nI 3)))), (s2, .inl (cs 0, 256, .inl (fun _ => 0))), (s3, .inl (cs 0, 256, .inl (fun _ => 0))), (qr, .inr (1, [.ref r1, .ref r2, .int 0, .int 0])), (r1, .inl (cs 0, 256, .inl (flF (-1)))), (r2, .inl (cs 0, 256, .inl (fun _ => 0)))]
set_option maxHeartbeats 4000000 in
set_option maxRecDepth 100000 in
/-- one turn of the loop that makes the tunnellers -/
theorem mz_step {p : Program} {l : Launch} {e : Env} {R : Room} {s : State} {m : MethodId} {args : Array Value} {below : List Frame} {meth : Method} {c : Code} {H : Heap} {locs : List Loc} {cells slots : Nat} {Q : State → Prop} {ls : Array Slot} {D : va_G} {cs : Nat → ClassId} {A : Nat → Prop} {H0 : Heap} {L E : va_W} {h qc i : Nat} {f : Nat → Option Nat} {fs : List Value}
    (hx : p.tables.exec = Jvm.exec) (hb : c.code = cX0_init) (hml : c.maxLocals = 2) (hts : ∀ w ∈ wsX0_init, w.before args s = true) (hown : s.vm.findClass RX0 = some m.cls) (hK : va_K D vwCl (tyA cs) s) (hN : NW s) (hP : va_P D vwCl (L ++ (qc, rfA f (cs 1) 8) :: E) H) (hD : va_D A (L ++ (qc, rfA f (cs 1) 8) :: E)) (hS : va_S A H0 H locs) (hA : ∀ q, H0.size ≤ q → A q) (h0 : L[0]? = some (h, .inr (0, fs))) (hfs : fs[2]? = some (.ref qc)) (hi : i < 8) (hl : lv_has ls 2 [(1, .int (nI i)), (0, .ref h)]) (hRf : 2 ≤ R.frames) (hRl : 60 ≤ R.locals) (hc : cells + 2 ≤ R.cells) (hs : slots + 32 ≤ R.slots)
    (kk : ∀ (t o : Nat) (H1 : Heap) (locs1 : List Loc) (ls1 : Array Slot), va_P D vwCl (L ++ (qc, rfA (va_up f i (some t)) (cs 1) 8) :: (E ++ X4_init_W cs t o)) H1 → va_D A (L ++ (qc, rfA (va_up f i (some t)) (cs 1) 8) :: (E ++ X4_init_W cs t o)) → va_S A H0 H1 locs1 → lv_has ls1 2 [(1, .int (nI (i + 1))), (0, .ref h)] → W p l e R s m args below meth c H1 locs1 (cells + 2) (slots + 32) Q (F0 m 37 ls1 [])) : W p l e R s m args below meth c H locs cells slots Q (F0 m 37 ls []) := by
  refine lv_iload_n hx hb dX0_init_37 rfl (lv_at hl 0 rfl) ?_
  refine lv_bipush (v := nI 8) hx hb dX0_init_38 (by decide) ?_
  refine lv_icmp_ge (tgt := 62) hx hb dX0_init_40 (by decide) (fun y => absurd ((nI_leI (a := 8) (b := i) (by decide) (by omega)).mp y) (by omega)) (fun _ => ?_)
  refine lv_aload_n hx hb dX0_init_43 rfl (lv_at hl 1 rfl) ?_
  refine va_get (ci := 0) (v := .ref qc) (C := RX0) (T := TX0) (N := 7) hx hb hts (fun _ h => List.mem_cons_of_mem _ (List.mem_append_left _ (List.mem_append_left _ (List.mem_append_right _ h)))) hown hK hP 0 (app_lt h0) rfl 2 (by decide) (hts _ (List.mem_of_getElem? (i := 13) rfl)) (fun _ h9 => h9) hfs dX0_init_44 ?_
  refine lv_iload_n hx hb dX0_init_47 rfl (lv_at hl 0 rfl) ?_
  refine va_new (ci := 4) (fs := [.int 0, .int 0, .int 0, .int 0, .int 0, .int 0, .null, .int 0]) (C := RX4) (T := TX4) (N := 8) hx hb hts (fun _ h => List.mem_cons_of_mem _ (List.mem_append_right _ h)) tyX4 tyX4_ok hown (hts _ (List.mem_of_getElem? (i := 12) rfl)) (hts _ (List.mem_of_getElem? (i := 14) rfl)) (hts _ (List.mem_of_getElem? (i := 15) rfl)) hK hP hD hS hA rfl (fun j hj => by rcases (show j = 0 ∨ j = 1 ∨ j = 2 ∨ j = 3 ∨ j = 4 ∨ j = 5 ∨ j = 6 ∨ j = 7 from by omega) with rfl | rfl | rfl | rfl | rfl | rfl | rfl | rfl <;> rfl) (by omega) (by omega) dX0_init_48 (fun t H hP hD hS => ?_)
  refine lv_dup hx hb dX0_init_51 rfl ?_
  refine r_ctor (Wf := X4_init_W cs t) (post := fun _ : Nat => True) hP hD hS hA (va_runIN (As := []) (rest := [.ref t, .int (nI i), .ref qc]) ⟨hx, hb, hml, hown, hts⟩ (c_X4_init l D cs t H.size) ⟨va_cnB 0 hts gX0_init_X4_init_n31 rfl rfl rfl (nwv1 hN) (hts _ (List.mem_of_getElem? (i := 15) rfl)) (by decide +kernel) ⟨hRf, Nat.le_trans (Nat.le_of_ble_eq_true rfl) hRl⟩, rfl, (hts _ (List.mem_of_getElem? (i := 35) rfl))⟩ (l_preS (X := TrX) (fun _ _ _ h => h) (P_right hP) (D_right hD) hK hN trivial) rfl rfl hl.1 rfl (lv_room (Nat.le_of_ble_eq_true rfl)) dX0_init_52 ⟨by omega, by omega⟩) (fun o H locs _ hP hD hS => ?_)
  refine va_astq (r := (RX4, TX4, 8)) (i := nI i) hx hb hK hP hD hS L.length 1 (L ++ (qc, rfA f (cs 1) 8) :: E).length 4 (app_lt app_at) rfl (app_rt (k := 0) rfl) rfl (vp_in_nI hi (by decide)) dX0_init_55 (fun H locs hP hD hS => ?_)
  rw [nI_clamp (by omega), app_set2] at hP hD
  refine lv_iinc (v := nI (i + 1)) (lv' := [(1, .int (nI (i + 1))), (0, .ref h)]) hx hb dX0_init_56 hl (k := 0) rfl (nI_1 i) (by decide) rfl (fun ls hl => ?_)
  refine lv_goto (tgt := 37) hx hb dX0_init_59 (by decide) ?_
  exact W.cs (by omega) (by omega) (kk t o _ _ _ hP hD hS hl)
set_option maxHeartbeats 4000000 in
set_option maxRecDepth 100000 in
theorem c_X0_init (l : Launch) (D : va_G) (cs : Nat → ClassId) (h sz : Nat) : MetC AOX l yX0_init wsX0_init ({ frames := 2, cells := 24, slots := 1551, locals := 60 }) cs D h (.inr (0, [.null, .null, .null, .int 0, .int 0, .int 0, .int 0])) sz (fun u : Nat → Nat => u 0 = h) (fun u => gw kzs cs u mz0) 24 1551 := by
  refine l_met (X := AOX) (cc := cX0_init) (maxL := 2) (ret := none) (by decide) rfl (Nat.le_of_ble_eq_true rfl) ?_
  intro pg e s m args below meth c ls hx hb hr hml hts hown hmn hlocks hsz hP hD hK hN hS hA hl hAO
  have hown : s.vm.findClass RX0 = some m.cls := hown
  have hmn : meth.name = "<init>" := hmn
  have hl : lv_has ls 2 [(0, .ref h)] := hl
  refine lv_aload_n hx hb dX0_init_0 rfl (lv_at hl 0 rfl) ?_
  refine W.objInit hx hb hown (hts _ (List.mem_of_getElem? (i := 1) rfl)) (hts _ (List.mem_of_getElem? (i := 2) rfl)) (hts _ (List.mem_of_getElem? (i := 3) rfl)) rfl (by rw [hml]; exact hl.1) rfl dX0_init_1 (Nat.le_of_ble_eq_true rfl) (Nat.le_of_ble_eq_true rfl) ?_
  refine lv_aload_n hx hb dX0_init_4 rfl (lv_at hl 0 rfl) ?_
  refine va_new (ci := 3) (fs := [.null, .null, .null]) (C := RX3) (T := TX3) (N := 3) hx hb hts (fun _ h => List.mem_cons_of_mem _ (List.mem_append_left _ (List.mem_append_left _ (List.mem_append_left _ (List.mem_append_right _ h))))) tyX3 tyX3_ok hown (hts _ (List.mem_of_getElem? (i := 4) rfl)) (hts _ (List.mem_of_getElem? (i := 5) rfl)) (hts _ (List.mem_of_getElem? (i := 6) rfl)) hK hP hD hS hA rfl (fun j hj => by rcases (show j = 0 ∨ j = 1 ∨ j = 2 from by omega) with rfl | rfl | rfl <;> rfl) (Nat.le_of_ble_eq_true rfl) (Nat.le_of_ble_eq_true rfl) dX0_init_5 (fun qs H hP hD hS => ?_)
  refine lv_dup hx hb dX0_init_8 rfl ?_
  refine r_ctor (L := [(h, (.inr (0, [.null, .null, .null, .int 0, .int 0, .int 0, .int 0])))]) (Wf := X3_init_W cs qs) (post := fun _ : Nat × Nat × Nat => True) hP hD hS hA (va_runI (As := []) (rest := [.ref qs, .ref h]) ⟨hx, hb, hml, hown, hts⟩ (c_X3_init l D cs qs H.size) (cwI 0 hts gX0_init_X3_init rfl rfl rfl (hts _ (List.mem_of_getElem? (i := 6) rfl)) (hts _ (List.mem_of_getElem? (i := 16) rfl)) (hts _ (List.mem_of_getElem? (i := 17) rfl)) rfl (by decide +kernel) ⟨Nat.le_of_ble_eq_true rfl, Nat.le_of_ble_eq_true rfl⟩) (l_preS (X := TrX) (fun _ _ _ h => h) (P_right (w1 := [(h, (.inr (0, [.null, .null, .null, .int 0, .int 0, .int 0, .int 0])))]) hP) (D_right (w1 := [(h, (.inr (0, [.null, .null, .null, .int 0, .int 0, .int 0, .int 0])))]) hD) hK hN trivial) rfl rfl hl.1 rfl (lv_room (Nat.le_of_ble_eq_true rfl)) dX0_init_9 ⟨Nat.le_of_ble_eq_true rfl, Nat.le_of_ble_eq_true rfl⟩) (fun u H locs _ hP hD hS => ?_)
  obtain ⟨s1, s2, s3⟩ := u
  refine va_putF (ci := 0) (v := .ref qs) (ty := .object "SnowMaze$Snow") (C := RX0) (T := TX0) (N := 7) hx hb hts (fun _ h => List.mem_cons_of_mem _ (List.mem_append_left _ (List.mem_append_left _ (List.mem_append_right _ h)))) tyX0 tyX0_ok nmX0 hown hK hP hD hS 0 rfl rfl 0 (by decide) (hts _ (List.mem_of_getElem? (i := 7) rfl)) (fun _ h9 => h9) rfl hmn rfl (tyX0_ok 0 (by decide)) rfl rfl (Nat.le_of_ble_eq_true rfl) dX0_init_12 (fun H locs hP hD hS => ?_)
  have hP : va_P D vwCl ((h, .inr (0, [.ref qs, .null, .null, .int 0, .int 0, .int 0, .int 0])) :: X3_init_W cs qs (s1, s2, s3)) H := hP
  have hD : va_D (va_A [(h, (.inr (0, [.null, .null, .null, .int 0, .int 0, .int 0, .int 0])))] sz) ((h, .inr (0, [.ref qs, .null, .null, .int 0, .int 0, .int 0, .int 0])) :: X3_init_W cs qs (s1, s2, s3)) := hD
  refine lv_aload_n hx hb dX0_init_15 rfl (lv_at hl 0 rfl) ?_
  refine va_new (ci := 1) (fs := [.null, .null, .int 0, .int 0]) (C := RX1) (T := TX1) (N := 4) hx hb hts (fun _ h => List.mem_cons_of_mem _ (List.mem_append_left _ (List.mem_append_right _ h))) tyX1 tyX1_ok hown (hts _ (List.mem_of_getElem? (i := 8) rfl)) (hts _ (List.mem_of_getElem? (i := 9) rfl)) (hts _ (List.mem_of_getElem? (i := 10) rfl)) hK hP hD hS hA rfl (fun j hj => by rcases (show j = 0 ∨ j = 1 ∨ j = 2 ∨ j = 3 from by omega) with rfl | rfl | rfl | rfl <;> rfl) (Nat.le_of_ble_eq_true rfl) (Nat.le_of_ble_eq_true rfl) dX0_init_16 (fun qr H hP hD hS => ?_)
  refine lv_dup hx hb dX0_init_19 rfl ?_
  refine r_ctor (Wf := X1_init_W cs qr) (post := fun _ : Nat × Nat => True) hP hD hS hA (va_runI (As := []) (rest := [.ref qr, .ref h]) ⟨hx, hb, hml, hown, hts⟩ (c_X1_init l D cs qr H.size) (cwI 0 hts gX0_init_X1_init rfl rfl rfl (hts _ (List.mem_of_getElem? (i := 10) rfl)) (hts _ (List.mem_of_getElem? (i := 28) rfl)) (hts _ (List.mem_of_getElem? (i := 29) rfl)) rfl (by decide +kernel) ⟨Nat.le_of_ble_eq_true rfl, Nat.le_of_ble_eq_true rfl⟩) (l_preS (X := TrX) (fun _ _ _ h => h) (P_right hP) (D_right hD) hK hN trivial) rfl rfl hl.1 rfl (lv_room (Nat.le_of_ble_eq_true rfl)) dX0_init_20 ⟨Nat.le_of_ble_eq_true rfl, Nat.le_of_ble_eq_true rfl⟩) (fun u H locs _ hP hD hS => ?_)
  obtain ⟨r1, r2⟩ := u
  refine va_putF (ci := 0) (v := .ref qr) (ty := .object "SnowMaze$Reach") (C := RX0) (T := TX0) (N := 7) hx hb hts (fun _ h => List.mem_cons_of_mem _ (List.mem_append_left _ (List.mem_append_left _ (List.mem_append_right _ h)))) tyX0 tyX0_ok nmX0 hown hK hP hD hS 0 rfl rfl 1 (by decide) (hts _ (List.mem_of_getElem? (i := 11) rfl)) (fun _ h9 => h9) rfl hmn rfl (tyX0_ok 1 (by decide)) rfl rfl (Nat.le_of_ble_eq_true rfl) dX0_init_23 (fun H locs hP hD hS => ?_)
  have hP : va_P D vwCl ((h, .inr (0, [.ref qs, .ref qr, .null, .int 0, .int 0, .int 0, .int 0])) :: (X3_init_W cs qs (s1, s2, s3) ++ X1_init_W cs qr (r1, r2))) H := hP
  have hD : va_D (va_A [(h, (.inr (0, [.null, .null, .null, .int 0, .int 0, .int 0, .int 0])))] sz) ((h, .inr (0, [.ref qs, .ref qr, .null, .int 0, .int 0, .int 0, .int 0])) :: (X3_init_W cs qs (s1, s2, s3) ++ X1_init_W cs qr (r1, r2))) := hD
  refine lv_aload_n hx hb dX0_init_26 rfl (lv_at hl 0 rfl) ?_
  refine lv_bipush (v := nI 8) hx hb dX0_init_27 (by decide) ?_
  refine va_newq (C := "SnowMaze$Tunneller") (n := nI 8) (N' := 8) hx hb hown (hts _ (List.mem_of_getElem? (i := 12) rfl)) hAO hK hP hD hS hA (nI_pos (by decide)) (nI_clamp (by decide)) (Nat.le_of_ble_eq_true rfl) (Nat.le_of_ble_eq_true rfl) (Nat.le_of_ble_eq_true rfl) dX0_init_29 (fun qc cA H hK2 hP hD hS => ?_)
  have hcA : cA = cs 1 := by
    obtain ⟨_, _, _, _, _, h4⟩ := (hK2.2 4 (cA, .object "SnowMaze$Tunneller") rfl).2
    obtain ⟨_, _, _, _, _, h5⟩ := (hK.2 1 (cs 1, .object "SnowMaze$Tunneller") rfl).2
    exact Option.some.inj (h4.symm.trans h5)
  subst hcA
  refine va_putF (ci := 0) (v := .ref qc) (ty := .array (.object "SnowMaze$Tunneller")) (C := RX0) (T := TX0) (N := 7) hx hb hts (fun _ h => List.mem_cons_of_mem _ (List.mem_append_left _ (List.mem_append_left _ (List.mem_append_right _ h)))) tyX0 tyX0_ok nmX0 hown hK hP hD hS 0 rfl rfl 2 (by decide) (hts _ (List.mem_of_getElem? (i := 13) rfl)) (fun _ h9 => h9) rfl hmn rfl (tyX0_ok 2 (by decide)) rfl rfl (Nat.le_of_ble_eq_true rfl) dX0_init_32 (fun H locs hP hD hS => ?_)
  have hP : va_P D vwCl (mzL cs h qs s1 s2 s3 qr r1 r2 qc ++ (qc, rfA (fun _ => none) (cs 1) 8) :: []) H := hP
  have hD : va_D (va_A [(h, (.inr (0, [.null, .null, .null, .int 0, .int 0, .int 0, .int 0])))] sz) (mzL cs h qs s1 s2 s3 qr r1 r2 qc ++ (qc, rfA (fun _ => none) (cs 1) 8) :: []) := hD
  refine lv_iconst (v := nI 0) hx hb dX0_init_35 (by decide) ?_
  refine lv_istore_n (lv' := [(1, .int (nI 0)), (0, .ref h)]) hx hb dX0_init_36 rfl hl (by decide) rfl (fun ls hl => ?_)
  refine mz_step (i := 0) hx hb hml hts hown hK hN hP hD hS hA rfl rfl (by decide) hl (Nat.le_of_ble_eq_true rfl) (Nat.le_of_ble_eq_true rfl) (Nat.le_of_ble_eq_true rfl) (Nat.le_of_ble_eq_true rfl) (fun t0 o0 H locs ls hP hD hS hl => ?_)
  refine mz_step (i := 1) hx hb hml hts hown hK hN hP hD hS hA rfl rfl (by decide) hl (Nat.le_of_ble_eq_true rfl) (Nat.le_of_ble_eq_true rfl) (Nat.le_of_ble_eq_true rfl) (Nat.le_of_ble_eq_true rfl) (fun t1 o1 H locs ls hP hD hS hl => ?_)
  refine mz_step (i := 2) hx hb hml hts hown hK hN hP hD hS hA rfl rfl (by decide) hl (Nat.le_of_ble_eq_true rfl) (Nat.le_of_ble_eq_true rfl) (Nat.le_of_ble_eq_true rfl) (Nat.le_of_ble_eq_true rfl) (fun t2 o2 H locs ls hP hD hS hl => ?_)
  refine mz_step (i := 3) hx hb hml hts hown hK hN hP hD hS hA rfl rfl (by decide) hl (Nat.le_of_ble_eq_true rfl) (Nat.le_of_ble_eq_true rfl) (Nat.le_of_ble_eq_true rfl) (Nat.le_of_ble_eq_true rfl) (fun t3 o3 H locs ls hP hD hS hl => ?_)
  refine mz_step (i := 4) hx hb hml hts hown hK hN hP hD hS hA rfl rfl (by decide) hl (Nat.le_of_ble_eq_true rfl) (Nat.le_of_ble_eq_true rfl) (Nat.le_of_ble_eq_true rfl) (Nat.le_of_ble_eq_true rfl) (fun t4 o4 H locs ls hP hD hS hl => ?_)
  refine mz_step (i := 5) hx hb hml hts hown hK hN hP hD hS hA rfl rfl (by decide) hl (Nat.le_of_ble_eq_true rfl) (Nat.le_of_ble_eq_true rfl) (Nat.le_of_ble_eq_true rfl) (Nat.le_of_ble_eq_true rfl) (fun t5 o5 H locs ls hP hD hS hl => ?_)
  refine mz_step (i := 6) hx hb hml hts hown hK hN hP hD hS hA rfl rfl (by decide) hl (Nat.le_of_ble_eq_true rfl) (Nat.le_of_ble_eq_true rfl) (Nat.le_of_ble_eq_true rfl) (Nat.le_of_ble_eq_true rfl) (fun t6 o6 H locs ls hP hD hS hl => ?_)
  refine mz_step (i := 7) hx hb hml hts hown hK hN hP hD hS hA rfl rfl (by decide) hl (Nat.le_of_ble_eq_true rfl) (Nat.le_of_ble_eq_true rfl) (Nat.le_of_ble_eq_true rfl) (Nat.le_of_ble_eq_true rfl) (fun t7 o7 H locs ls hP hD hS hl => ?_)
  refine lv_iload_n hx hb dX0_init_37 rfl (lv_at hl 0 rfl) ?_
  refine lv_bipush (v := nI 8) hx hb dX0_init_38 (by decide) ?_
  refine lv_icmp_ge (tgt := 62) hx hb dX0_init_40 (by decide) (fun _ => ?_) (fun y => absurd (Int32.le_refl _) y)
  have hP := P_cell (i0 := 8) (g := fun i => some (([h, qs, s1, s2, s3, qr, r1, r2, qc, t0, t1, t2, t3, t4, t5, t6, t7, o0, o1, o2, o3, o4, o5, o6, o7] : List Nat).getD (8 + (1 + i)) 0)) rfl (fun j hj => by rcases (show j = 0 ∨ j = 1 ∨ j = 2 ∨ j = 3 ∨ j = 4 ∨ j = 5 ∨ j = 6 ∨ j = 7 from by omega) with rfl | rfl | rfl | rfl | rfl | rfl | rfl | rfl <;> rfl) hP
  have hD := hD.set (p := 8) (e := rfA (fun i => some (([h, qs, s1, s2, s3, qr, r1, r2, qc, t0, t1, t2, t3, t4, t5, t6, t7, o0, o1, o2, o3, o4, o5, o6, o7] : List Nat).getD (8 + (1 + i)) 0)) (cs 1) 8) rfl
  have hPf : va_P D vwCl (gw kzs cs (fun i => ([h, qs, s1, s2, s3, qr, r1, r2, qc, t0, t1, t2, t3, t4, t5, t6, t7, o0, o1, o2, o3, o4, o5, o6, o7] : List Nat).getD i 0) mz0) H := hP.sub [0, 1, 2, 3, 4, 5, 6, 7, 8, 9, 11, 13, 15, 17, 19, 21, 23, 10, 12, 14, 16, 18, 20, 22, 24] rfl
  have hDf : va_D (va_A [(h, (.inr (0, [.null, .null, .null, .int 0, .int 0, .int 0, .int 0])))] sz) (gw kzs cs (fun i => ([h, qs, s1, s2, s3, qr, r1, r2, qc, t0, t1, t2, t3, t4, t5, t6, t7, o0, o1, o2, o3, o4, o5, o6, o7] : List Nat).getD i 0) mz0) := hD.sub [0, 1, 2, 3, 4, 5, 6, 7, 8, 9, 11, 13, 15, 17, 19, 21, 23, 10, 12, 14, 16, 18, 20, 22, 24] (by decide) rfl
  exact c_vret (Wf := fun u => gw kzs cs u mz0) (fun i => ([h, qs, s1, s2, s3, qr, r1, r2, qc, t0, t1, t2, t3, t4, t5, t6, t7, o0, o1, o2, o3, o4, o5, o6, o7] : List Nat).getD i 0) hx hb hr hlocks hPf hDf hS rfl dX0_init_62

