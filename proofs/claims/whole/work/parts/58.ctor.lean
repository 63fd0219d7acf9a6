theorem D_addr {A : Nat → Prop} {ws ws' : va_W} (h : ws.map (fun q => q.1) = ws'.map (fun q => q.1)) (hD : va_D A ws) : va_D A ws' := by
  have key : ∀ (k : Nat) (q : Nat × va_E), ws'[k]? = some q → ∃ e, ws[k]? = some (q.1, e) := by
    intro k q hk
    have h1 : (ws'.map (fun q => q.1))[k]? = some q.1 := by rw [List.getElem?_map, hk]; rfl
    rw [← h, List.getElem?_map] at h1
    cases h2 : ws[k]? with
    | none => rw [h2] at h1; cases h1
    | some x =>
      rw [h2] at h1
      have : x.1 = q.1 := Option.some.inj h1
      exact ⟨x.2, by rw [← this]⟩
  refine ⟨fun i j p q hp hq e => ?_, fun k q hk => ?_⟩
  · obtain ⟨e1, h1⟩ := key i p hp
    obtain ⟨e2, h2⟩ := key j q hq
    exact hD.1 i j _ _ h1 h2 e
  · obtain ⟨e1, h1⟩ := key k q hk
    exact hD.2 k (q.1, e1) h1
theorem last_apart {D : va_G} {cl : List vw_C} {A : Nat → Prop} {L : va_W} {q : Nat} {e0 : va_E} {H : Heap} (hP : va_P D cl L H) (hD : va_D A (L ++ [(q, e0)])) {k : Nat} {x : Nat × va_E} (hx : L[k]? = some x) : ¬ va_A [(q, e0)] H.size x.1 := by
  intro y
  rcases y with ⟨k', e, hk'⟩ | y
  · have h0 : k' = 0 := by
      have := (List.getElem?_eq_some_iff.mp hk').1
      simp at this; exact this
    subst h0
    have e1 : (q, e0) = (x.1, e) := Option.some.inj hk'
    have e2 : q = x.1 := congrArg Prod.fst e1
    have h1 : (L ++ [(q, e0)])[L.length + 0]? = some (q, e0) := app_rt (E := [(q, e0)]) rfl
    have h2 := hD.1 _ _ _ _ (app_lt (E := [(q, e0)]) hx) h1 e2.symm
    have := (List.getElem?_eq_some_iff.mp hx).1
    omega
  · exact absurd ((hP k x hx).lt) (Nat.not_lt.mpr y)
abbrev flF (x : Int32) : Nat → Int32 := fun j => if j < 256 then x else 0
section CTOR
variable {p : Program} {l : Launch} {e : Env} {R : Room} {s : State} {m : MethodId} {args : Array Value} {below : List Frame} {meth : Method} {c : Code} {H : Heap} {locs : List Loc} {cells slots : Nat} {Q : State → Prop}
variable {cc : ByteArray} {pc : Nat} {ls : Array Slot} {rest st0 : List Value} {D : va_G} {cs : Nat → ClassId} {A : Nat → Prop} {H0 : Heap} {a : Array Value} {mc ms : Nat} {ws L : va_W} {q : Nat} {e0 : va_E}
theorem r_newI (hx : p.tables.exec = Jvm.exec) (hb : c.code = cc) (harr : (Cond.arrayClass .int).before args s = true) (hK : va_K D vwCl (tyA cs) s) (hP : va_P D vwCl ws H) (hD : va_D A ws) (hS : va_S A H0 H locs) (hA : ∀ q, H0.size ≤ q → A q) {n : Nat} (hn : n < 2 ^ 31) (hbytes : n * 4 ≤ 536870912) (hcells : cells + 1 ≤ R.cells) (hslots : slots + n ≤ R.slots) (hdg : decode cc pc = .ok (.newarray .int, 2))
    (kk : ∀ (q : Nat) (H1 : Heap), va_P D vwCl (ws ++ [(q, .inl (cs 0, n, .inl (fun _ => 0)))]) H1 → va_D A (ws ++ [(q, .inl (cs 0, n, .inl (fun _ => 0)))]) → va_S A H0 H1 locs → W p l e R s m args below meth c H1 locs (cells + 1) (slots + n) Q (F0 m (pc + 2) ls (.ref q :: rest))) : W p l e R s m args below meth c H locs cells slots Q (F0 m pc ls (.int (nI n) :: rest)) := by
  refine va_newa (atype := .int) hx hb harr rfl hK hP hD hS hA (a0 := (n, .inl (fun _ => 0))) (N' := n) (fun cA => rfl) (nI_pos hn) (nI_clamp hn) hbytes hcells hslots hdg (fun q cA H1 hK2 hP1 hD1 hS1 => ?_)
  have e : cA = cs 0 := by
    have h1 := (hK2.2 4 (cA, .int) rfl).2
    have h2 := (hK.2 0 (cs 0, .int) rfl).2
    exact Option.some.inj (h1.symm.trans h2)
  subst e
  exact kk q H1 hP1 hD1 hS1
theorem r_fill {i0 : Nat} {b : Int32} (hP : va_P D vwCl ws H) (hD : va_D A ws) (hS : va_S A H0 H locs) (hA : ∀ q, H0.size ≤ q → A q) (hi : ws[i0]? = some (q, .inl (cs 0, 256, .inl (fun _ => 0)))) (hr : va_Run p l e R s m args below meth c H locs cells slots 0 0 (F0 m pc ls st0) rest (va_Qv (fun u : Mm => u = wrA (fun _ _ => 0) 0 (fun j => if j < 256 then b else 0)) (wat [8] cs D (fun _ => q) (gA [8] (fun _ => q) H.size)) (gA [8] (fun _ => q) H.size) a) (gA [8] (fun _ => q) H.size))
    (kk : ∀ (H1 : Heap) (locs1 : List Loc), va_P D vwCl (ws.set i0 (q, .inl (cs 0, 256, .inl (flF b)))) H1 → va_D A (ws.set i0 (q, .inl (cs 0, 256, .inl (flF b)))) → va_S A H0 H1 locs1 → W p l e R s m args below meth c H1 locs1 (cells + 0) (slots + 0) Q (F0 m (pc + 3) ls rest)) : W p l e R s m args below meth c H locs cells slots Q (F0 m pc ls st0) := by
  have hf : ∀ x, gA [8] (fun _ => q) H.size x → A x := by
    intro x h
    rcases h with ⟨k, hk, rfl⟩ | h
    · exact hD.2 i0 _ hi
    · exact hA x (Nat.le_trans hS.1 h)
  refine va_callv hr hS (fun x _ h => hf x h) hf (fun u t H1 locs1 ht hvm hw hB hz1 hk1 hS1 => ?_)
  refine kk H1 locs1 (fun k x hx => ?_) (hD.set hi) hS1
  by_cases g : k = i0
  · subst g
    have hl : k < ws.length := (List.getElem?_eq_some_iff.mp hi).1
    rw [List.getElem?_set_self hl] at hx
    have hP1 := hB.1 0 (q, .inl (cs 0, 256, .inl (u 0))) rfl
    rw [ht] at hP1
    cases hx
    have e1 : u 0 = flF b := by rw [hw]; exact wrA_s _ _ _
    rw [e1] at hP1
    exact hP1
  · rw [List.getElem?_set_ne (Ne.symm g)] at hx
    refine (hP k x hx).kept (hk1 x.1 ((hP k x hx).lt) (fun y => ?_))
    rcases y with ⟨k', hk', e⟩ | y
    · exact g (hD.1 k i0 _ _ hx hi e)
    · exact absurd ((hP k x hx).lt) (Nat.not_lt.mpr y)
/-- a constructor's call: the cell made last comes back as a world of its own -/
theorem r_ctor {S : Type} {Wf : S → va_W} {post : S → Prop} (hP : va_P D vwCl (L ++ [(q, e0)]) H) (hD : va_D A (L ++ [(q, e0)])) (hS : va_S A H0 H locs) (hA : ∀ q, H0.size ≤ q → A q) (hr : va_Run p l e R s m args below meth c H locs cells slots mc ms (F0 m pc ls st0) rest (va_Qv post (fun u t => va_P D vwCl (Wf u) t.heap ∧ va_D (va_A [(q, e0)] H.size) (Wf u)) (va_A [(q, e0)] H.size) a) (va_A [(q, e0)] H.size))
    (kk : ∀ (u : S) (H1 : Heap) (locs1 : List Loc), post u → va_P D vwCl (L ++ Wf u) H1 → va_D A (L ++ Wf u) → va_S A H0 H1 locs1 → W p l e R s m args below meth c H1 locs1 (cells + mc) (slots + ms) Q (F0 m (pc + 3) ls rest)) : W p l e R s m args below meth c H locs cells slots Q (F0 m pc ls st0) := by
  have hf := A_free (D_right hD) hS hA
  have hPL := P_left hP
  refine va_callv hr hS (fun x _ h => hf x h) hf (fun u t H1 locs1 ht hvm hw hB hz1 hk1 hS1 => ?_)
  refine kk u H1 locs1 hw ((hPL.kept (fun k x hx => hk1 x.1 ((hPL k x hx).lt) (last_apart hPL hD hx))).app (by rw [← ht]; exact hB.1)) ((D_left hD).app (hB.2.weaken (fun _ _ _ h => hf _ h)) (fun i j p' q' hp' hq' e => ?_)) hS1
  exact last_apart hPL hD hp' (by rw [e]; exact hB.2.2 j q' hq')
theorem c_vret {S : Type} {Wf : S → va_W} {post : S → Prop} (u : S) (hx : p.tables.exec = Jvm.exec) (hb : c.code = cc) (hr : meth.sig.returnType = none) (hlocks : meth.locks = false) (hP : va_P D vwCl (Wf u) H) (hD : va_D A (Wf u)) (hS : va_S A s.heap H locs) (hpost : post u) (hdg : decode cc pc = .ok (.return_, 1)) :
    W p l e R s m args below meth c H locs cells slots (MQ below (va_Qv post (fun u t => va_P D vwCl (Wf u) t.heap ∧ va_D A (Wf u)) A) args s cells slots A) (F0 m pc ls []) :=
  W.vret hx hb hr (fun t ht hW => ⟨⟨u, rfl, hpost, by rw [ht]; exact hP, hD⟩, hS.F ht⟩) hS.2.2 hdg hlocks
end CTOR
/-- a constructor's contract -/
abbrev MetC (X : State → Prop) {S : Type} (l : Launch) (y : MethodName) (wds : List Cond) (rm : Room) (cs : Nat → ClassId) (D : va_G) (h : Nat) (e0 : va_E) (sz : Nat) (post : S → Prop) (Wf : S → va_W) (mc ms : Nat) : Prop := Met l y wds rm (va_Pc [.ref h] (fun U => lpre [(h, e0)] cs D sz U ∧ X U)) (va_Qv post (fun u t => va_P D vwCl (Wf u) t.heap ∧ va_D (va_A [(h, e0)] sz) (Wf u)) (va_A [(h, e0)] sz)) mc ms (va_A [(h, e0)] sz)
abbrev TrX : State → Prop := fun _ => True

abbrev X3_init_W (cs : Nat → ClassId) (h : Nat) (u : Nat × Nat × Nat) : va_W := [(h, .inr (3, [.ref u.1, .ref u.2.1, .ref u.2.2])), (u.1, .inl (cs 0, 256, .inl (flF (nI 3)))), (u.2.1, .inl (cs 0, 256, .inl (fun _ => 0))), (u.2.2, .inl (cs 0, 256, .inl (fun _ => 0)))]
set_option maxHeartbeats 4000000 in
set_option maxRecDepth 100000 in
theorem c_X3_init (l : Launch) (D : va_G) (cs : Nat → ClassId) (h sz : Nat) : MetC TrX l yX3_init wsX3_init ({ frames := 1, cells := 3, slots := 768, locals := 30 }) cs D h (.inr (3, [.null, .null, .null])) sz (fun _ : Nat × Nat × Nat => True) (X3_init_W cs h) 3 768 := by
  refine l_met (X := TrX) (cc := cX3_init) (maxL := 1) (ret := none) (by decide) rfl (Nat.le_of_ble_eq_true rfl) ?_
  intro pg e s m args below meth c ls hx hb hr hml hts hown hmn hlocks hsz hP hD hK hN hS hA hl _
  have hown : s.vm.findClass RX3 = some m.cls := hown
  have hmn : meth.name = "<init>" := hmn
  have hl : lv_has ls 1 [(0, .ref h)] := hl
  refine lv_aload_n hx hb dX3_init_0 rfl (lv_at hl 0 rfl) ?_
  refine W.objInit hx hb hown (hts _ (List.mem_of_getElem? (i := 1) rfl)) (hts _ (List.mem_of_getElem? (i := 2) rfl)) (hts _ (List.mem_of_getElem? (i := 3) rfl)) rfl (by rw [hml]; exact hl.1) rfl dX3_init_1 (Nat.le_of_ble_eq_true rfl) (Nat.le_of_ble_eq_true rfl) ?_
  refine lv_aload_n hx hb dX3_init_4 rfl (lv_at hl 0 rfl) ?_
  refine lv_sipush (v := nI 256) hx hb dX3_init_5 (by decide) ?_
  refine r_newI (n := 256) hx hb (hts _ (List.mem_of_getElem? (i := 4) rfl)) hK hP hD hS hA (by decide) (Nat.le_of_ble_eq_true rfl) (Nat.le_of_ble_eq_true rfl) (Nat.le_of_ble_eq_true rfl) dX3_init_8 (fun q1 H hP hD hS => ?_)
  refine va_putF (ci := 3) (v := .ref q1) (ty := .array .int) (C := RX3) (T := TX3) (N := 3) hx hb hts (fun _ h => List.mem_cons_of_mem _ (List.mem_append_right _ h)) tyX3 tyX3_ok nmX3 hown hK hP hD hS 0 rfl rfl 0 (by decide) (hts _ (List.mem_of_getElem? (i := 5) rfl)) (fun _ h9 => h9) rfl hmn rfl (tyX3_ok 0 (by decide)) rfl rfl (Nat.le_of_ble_eq_true rfl) dX3_init_10 (fun H locs hP hD hS => ?_)
  have hP : va_P D vwCl [(h, .inr (3, [.ref q1, .null, .null])), (q1, .inl (cs 0, 256, .inl (fun _ => 0)))] H := hP
  have hD : va_D (va_A [(h, (.inr (3, [.null, .null, .null])))] sz) [(h, .inr (3, [.ref q1, .null, .null])), (q1, .inl (cs 0, 256, .inl (fun _ => 0)))] := hD
  refine lv_aload_n hx hb dX3_init_13 rfl (lv_at hl 0 rfl) ?_
  refine lv_sipush (v := nI 256) hx hb dX3_init_14 (by decide) ?_
  refine r_newI (n := 256) hx hb (hts _ (List.mem_of_getElem? (i := 4) rfl)) hK hP hD hS hA (by decide) (Nat.le_of_ble_eq_true rfl) (Nat.le_of_ble_eq_true rfl) (Nat.le_of_ble_eq_true rfl) dX3_init_17 (fun q2 H hP hD hS => ?_)
  refine va_putF (ci := 3) (v := .ref q2) (ty := .array .int) (C := RX3) (T := TX3) (N := 3) hx hb hts (fun _ h => List.mem_cons_of_mem _ (List.mem_append_right _ h)) tyX3 tyX3_ok nmX3 hown hK hP hD hS 0 rfl rfl 1 (by decide) (hts _ (List.mem_of_getElem? (i := 6) rfl)) (fun _ h9 => h9) rfl hmn rfl (tyX3_ok 1 (by decide)) rfl rfl (Nat.le_of_ble_eq_true rfl) dX3_init_19 (fun H locs hP hD hS => ?_)
  have hP : va_P D vwCl [(h, .inr (3, [.ref q1, .ref q2, .null])), (q1, .inl (cs 0, 256, .inl (fun _ => 0))), (q2, .inl (cs 0, 256, .inl (fun _ => 0)))] H := hP
  have hD : va_D (va_A [(h, (.inr (3, [.null, .null, .null])))] sz) [(h, .inr (3, [.ref q1, .ref q2, .null])), (q1, .inl (cs 0, 256, .inl (fun _ => 0))), (q2, .inl (cs 0, 256, .inl (fun _ => 0)))] := hD
  refine lv_aload_n hx hb dX3_init_22 rfl (lv_at hl 0 rfl) ?_
  refine lv_sipush (v := nI 256) hx hb dX3_init_23 (by decide) ?_
  refine r_newI (n := 256) hx hb (hts _ (List.mem_of_getElem? (i := 4) rfl)) hK hP hD hS hA (by decide) (Nat.le_of_ble_eq_true rfl) (Nat.le_of_ble_eq_true rfl) (Nat.le_of_ble_eq_true rfl) dX3_init_26 (fun q3 H hP hD hS => ?_)
  refine va_putF (ci := 3) (v := .ref q3) (ty := .array .int) (C := RX3) (T := TX3) (N := 3) hx hb hts (fun _ h => List.mem_cons_of_mem _ (List.mem_append_right _ h)) tyX3 tyX3_ok nmX3 hown hK hP hD hS 0 rfl rfl 2 (by decide) (hts _ (List.mem_of_getElem? (i := 7) rfl)) (fun _ h9 => h9) rfl hmn rfl (tyX3_ok 2 (by decide)) rfl rfl (Nat.le_of_ble_eq_true rfl) dX3_init_28 (fun H locs hP hD hS => ?_)
  have hP : va_P D vwCl [(h, .inr (3, [.ref q1, .ref q2, .ref q3])), (q1, .inl (cs 0, 256, .inl (fun _ => 0))), (q2, .inl (cs 0, 256, .inl (fun _ => 0))), (q3, .inl (cs 0, 256, .inl (fun _ => 0)))] H := hP
  have hD : va_D (va_A [(h, (.inr (3, [.null, .null, .null])))] sz) [(h, .inr (3, [.ref q1, .ref q2, .ref q3])), (q1, .inl (cs 0, 256, .inl (fun _ => 0))), (q2, .inl (cs 0, 256, .inl (fun _ => 0))), (q3, .inl (cs 0, 256, .inl (fun _ => 0)))] := hD
  refine lv_aload_n hx hb dX3_init_31 rfl (lv_at hl 0 rfl) ?_
  refine va_get (ci := 3) (v := .ref q1) (C := RX3) (T := TX3) (N := 3) hx hb hts (fun _ h => List.mem_cons_of_mem _ (List.mem_append_right _ h)) hown hK hP 0 rfl rfl 0 (by decide) (hts _ (List.mem_of_getElem? (i := 5) rfl)) (fun _ h9 => h9) rfl dX3_init_32 ?_
  refine lv_iconst (v := nI 3) hx hb dX3_init_35 (by decide) ?_
  have hPc : va_P D vwCl (gw [8] cs (fun _ => q1) (fun _ _ => 0)) H := hP.sub [1] rfl
  have hDc : va_D (va_A [(h, (.inr (3, [.null, .null, .null])))] sz) (gw [8] cs (fun _ => q1) (fun _ _ => 0)) := hD.sub [1] (by decide) rfl
  refine r_fill (i0 := 1) (q := q1) (b := nI 3) hP hD hS hA rfl (va_runS (As := [.ref q1, .int (nI 3)]) (rest := []) ⟨hx, hb, hml, hown, hts⟩ (c_J7_fill_53178 (K := [8]) l D cs (fun _ => q1) (fun _ _ => 0) H.size 0 rfl (nI 3)) (va_cwS 2 hts gX3_init_J7_fill_53178 rfl rfl rfl (by decide +kernel) ⟨Nat.le_of_ble_eq_true rfl, Nat.le_of_ble_eq_true rfl⟩) (g_preS hPc hDc hK hN) rfl rfl hl.1 rfl (lv_room (Nat.le_of_ble_eq_true rfl)) dX3_init_36 ⟨Nat.le_of_ble_eq_true rfl, Nat.le_of_ble_eq_true rfl⟩) (fun H locs hP hD hS => ?_)
  exact c_vret (Wf := X3_init_W cs h) (q1, q2, q3) hx hb hr hlocks hP hD hS trivial dX3_init_39
abbrev X1_init_W (cs : Nat → ClassId) (h : Nat) (u : Nat × Nat) : va_W := [(h, .inr (1, [.ref u.1, .ref u.2, .int 0, .int 0])), (u.1, .inl (cs 0, 256, .inl (flF (-1)))), (u.2, .inl (cs 0, 256, .inl (fun _ => 0)))]
set_option maxHeartbeats 4000000 in
set_option maxRecDepth 100000 in
theorem c_X1_init (l : Launch) (D : va_G) (cs : Nat → ClassId) (h sz : Nat) : MetC TrX l yX1_init wsX1_init ({ frames := 1, cells := 2, slots := 512, locals := 30 }) cs D h (.inr (1, [.null, .null, .int 0, .int 0])) sz (fun _ : Nat × Nat => True) (X1_init_W cs h) 2 512 := by
  refine l_met (X := TrX) (cc := cX1_init) (maxL := 1) (ret := none) (by decide) rfl (Nat.le_of_ble_eq_true rfl) ?_
  intro pg e s m args below meth c ls hx hb hr hml hts hown hmn hlocks hsz hP hD hK hN hS hA hl _
  have hown : s.vm.findClass RX1 = some m.cls := hown
  have hmn : meth.name = "<init>" := hmn
  have hl : lv_has ls 1 [(0, .ref h)] := hl
  refine lv_aload_n hx hb dX1_init_0 rfl (lv_at hl 0 rfl) ?_
  refine W.objInit hx hb hown (hts _ (List.mem_of_getElem? (i := 1) rfl)) (hts _ (List.mem_of_getElem? (i := 2) rfl)) (hts _ (List.mem_of_getElem? (i := 3) rfl)) rfl (by rw [hml]; exact hl.1) rfl dX1_init_1 (Nat.le_of_ble_eq_true rfl) (Nat.le_of_ble_eq_true rfl) ?_
  refine lv_aload_n hx hb dX1_init_4 rfl (lv_at hl 0 rfl) ?_
  refine lv_sipush (v := nI 256) hx hb dX1_init_5 (by decide) ?_
  refine r_newI (n := 256) hx hb (hts _ (List.mem_of_getElem? (i := 4) rfl)) hK hP hD hS hA (by decide) (Nat.le_of_ble_eq_true rfl) (Nat.le_of_ble_eq_true rfl) (Nat.le_of_ble_eq_true rfl) dX1_init_8 (fun q1 H hP hD hS => ?_)
  refine va_putF (ci := 1) (v := .ref q1) (ty := .array .int) (C := RX1) (T := TX1) (N := 4) hx hb hts (fun _ h => List.mem_cons_of_mem _ (List.mem_append_right _ h)) tyX1 tyX1_ok nmX1 hown hK hP hD hS 0 rfl rfl 0 (by decide) (hts _ (List.mem_of_getElem? (i := 5) rfl)) (fun _ h9 => h9) rfl hmn rfl (tyX1_ok 0 (by decide)) rfl rfl (Nat.le_of_ble_eq_true rfl) dX1_init_10 (fun H locs hP hD hS => ?_)
  have hP : va_P D vwCl [(h, .inr (1, [.ref q1, .null, .int 0, .int 0])), (q1, .inl (cs 0, 256, .inl (fun _ => 0)))] H := hP
  have hD : va_D (va_A [(h, (.inr (1, [.null, .null, .int 0, .int 0])))] sz) [(h, .inr (1, [.ref q1, .null, .int 0, .int 0])), (q1, .inl (cs 0, 256, .inl (fun _ => 0)))] := hD
  refine lv_aload_n hx hb dX1_init_13 rfl (lv_at hl 0 rfl) ?_
  refine lv_sipush (v := nI 256) hx hb dX1_init_14 (by decide) ?_
  refine r_newI (n := 256) hx hb (hts _ (List.mem_of_getElem? (i := 4) rfl)) hK hP hD hS hA (by decide) (Nat.le_of_ble_eq_true rfl) (Nat.le_of_ble_eq_true rfl) (Nat.le_of_ble_eq_true rfl) dX1_init_17 (fun q2 H hP hD hS => ?_)
  refine va_putF (ci := 1) (v := .ref q2) (ty := .array .int) (C := RX1) (T := TX1) (N := 4) hx hb hts (fun _ h => List.mem_cons_of_mem _ (List.mem_append_right _ h)) tyX1 tyX1_ok nmX1 hown hK hP hD hS 0 rfl rfl 1 (by decide) (hts _ (List.mem_of_getElem? (i := 6) rfl)) (fun _ h9 => h9) rfl hmn rfl (tyX1_ok 1 (by decide)) rfl rfl (Nat.le_of_ble_eq_true rfl) dX1_init_19 (fun H locs hP hD hS => ?_)
  have hP : va_P D vwCl [(h, .inr (1, [.ref q1, .ref q2, .int 0, .int 0])), (q1, .inl (cs 0, 256, .inl (fun _ => 0))), (q2, .inl (cs 0, 256, .inl (fun _ => 0)))] H := hP
  have hD : va_D (va_A [(h, (.inr (1, [.null, .null, .int 0, .int 0])))] sz) [(h, .inr (1, [.ref q1, .ref q2, .int 0, .int 0])), (q1, .inl (cs 0, 256, .inl (fun _ => 0))), (q2, .inl (cs 0, 256, .inl (fun _ => 0)))] := hD
  refine lv_aload_n hx hb dX1_init_22 rfl (lv_at hl 0 rfl) ?_
  refine va_get (ci := 1) (v := .ref q1) (C := RX1) (T := TX1) (N := 4) hx hb hts (fun _ h => List.mem_cons_of_mem _ (List.mem_append_right _ h)) hown hK hP 0 rfl rfl 0 (by decide) (hts _ (List.mem_of_getElem? (i := 5) rfl)) (fun _ h9 => h9) rfl dX1_init_23 ?_
  refine lv_iconst (v := -1) hx hb dX1_init_26 (by decide) ?_
  have hPc : va_P D vwCl (gw [8] cs (fun _ => q1) (fun _ _ => 0)) H := hP.sub [1] rfl
  have hDc : va_D (va_A [(h, (.inr (1, [.null, .null, .int 0, .int 0])))] sz) (gw [8] cs (fun _ => q1) (fun _ _ => 0)) := hD.sub [1] (by decide) rfl
  refine r_fill (i0 := 1) (q := q1) (b := -1) hP hD hS hA rfl (va_runS (As := [.ref q1, .int (-1)]) (rest := []) ⟨hx, hb, hml, hown, hts⟩ (c_J7_fill_53178 (K := [8]) l D cs (fun _ => q1) (fun _ _ => 0) H.size 0 rfl (-1)) (va_cwS 2 hts gX1_init_J7_fill_53178 rfl rfl rfl (by decide +kernel) ⟨Nat.le_of_ble_eq_true rfl, Nat.le_of_ble_eq_true rfl⟩) (g_preS hPc hDc hK hN) rfl rfl hl.1 rfl (lv_room (Nat.le_of_ble_eq_true rfl)) dX1_init_27 ⟨Nat.le_of_ble_eq_true rfl, Nat.le_of_ble_eq_true rfl⟩) (fun H locs hP hD hS => ?_)
  exact c_vret (Wf := X1_init_W cs h) (q1, q2) hx hb hr hlocks hP hD hS trivial dX1_init_30
abbrev X4_init_W (cs : Nat → ClassId) (h : Nat) (u : Nat) : va_W := [(h, .inr (4, [.int 0, .int 0, .int 0, .int 0, .int 0, .int 0, .ref u, .int 0])), (u, .inl (cs 0, 24, .inl (fun _ => 0)))]
set_option maxHeartbeats 4000000 in
set_option maxRecDepth 100000 in
theorem c_X4_init (l : Launch) (D : va_G) (cs : Nat → ClassId) (h sz : Nat) : MetC TrX l yX4_init wsX4_init ({ frames := 1, cells := 1, slots := 24, locals := 30 }) cs D h (.inr (4, [.int 0, .int 0, .int 0, .int 0, .int 0, .int 0, .null, .int 0])) sz (fun _ : Nat => True) (X4_init_W cs h) 1 24 := by
  refine l_met (X := TrX) (cc := cX4_init) (maxL := 1) (ret := none) (by decide) rfl (Nat.le_of_ble_eq_true rfl) ?_
  intro pg e s m args below meth c ls hx hb hr hml hts hown hmn hlocks hsz hP hD hK hN hS hA hl _
  have hown : s.vm.findClass RX4 = some m.cls := hown
  have hmn : meth.name = "<init>" := hmn
  have hl : lv_has ls 1 [(0, .ref h)] := hl
  refine lv_aload_n hx hb dX4_init_0 rfl (lv_at hl 0 rfl) ?_
  refine W.objInit hx hb hown (hts _ (List.mem_of_getElem? (i := 1) rfl)) (hts _ (List.mem_of_getElem? (i := 2) rfl)) (hts _ (List.mem_of_getElem? (i := 3) rfl)) rfl (by rw [hml]; exact hl.1) rfl dX4_init_1 (Nat.le_of_ble_eq_true rfl) (Nat.le_of_ble_eq_true rfl) ?_
  refine lv_aload_n hx hb dX4_init_4 rfl (lv_at hl 0 rfl) ?_
  refine lv_bipush (v := nI 24) hx hb dX4_init_5 (by decide) ?_
  refine r_newI (n := 24) hx hb (hts _ (List.mem_of_getElem? (i := 4) rfl)) hK hP hD hS hA (by decide) (Nat.le_of_ble_eq_true rfl) (Nat.le_of_ble_eq_true rfl) (Nat.le_of_ble_eq_true rfl) dX4_init_7 (fun q1 H hP hD hS => ?_)
  refine va_putF (ci := 4) (v := .ref q1) (ty := .array .int) (C := RX4) (T := TX4) (N := 8) hx hb hts (fun _ h => List.mem_cons_of_mem _ (List.mem_append_right _ h)) tyX4 tyX4_ok nmX4 hown hK hP hD hS 0 rfl rfl 6 (by decide) (hts _ (List.mem_of_getElem? (i := 5) rfl)) (fun _ h9 => h9) rfl hmn rfl (tyX4_ok 6 (by decide)) rfl rfl (Nat.le_of_ble_eq_true rfl) dX4_init_9 (fun H locs hP hD hS => ?_)
  have hP : va_P D vwCl [(h, .inr (4, [.int 0, .int 0, .int 0, .int 0, .int 0, .int 0, .ref q1, .int 0])), (q1, .inl (cs 0, 24, .inl (fun _ => 0)))] H := hP
  have hD : va_D (va_A [(h, (.inr (4, [.int 0, .int 0, .int 0, .int 0, .int 0, .int 0, .null, .int 0])))] sz) [(h, .inr (4, [.int 0, .int 0, .int 0, .int 0, .int 0, .int 0, .ref q1, .int 0])), (q1, .inl (cs 0, 24, .inl (fun _ => 0)))] := hD
  exact c_vret (Wf := X4_init_W cs h) q1 hx hb hr hlocks hP hD hS trivial dX4_init_12
abbrev X2_init_W (cs : Nat → ClassId) (h : Nat) (u : Nat × Nat) : va_W := [(h, .inr (2, [.ref u.1, .ref u.2, .int 0])), (u.1, .inl (cs 0, 256, .inl (fun _ => 0))), (u.2, .inl (cs 0, 256, .inl (fun _ => 0)))]
set_option maxHeartbeats 4000000 in
set_option maxRecDepth 100000 in
theorem c_X2_init (l : Launch) (D : va_G) (cs : Nat → ClassId) (h sz : Nat) : MetC TrX l yX2_init wsX2_init ({ frames := 1, cells := 2, slots := 512, locals := 30 }) cs D h (.inr (2, [.null, .null, .int 0])) sz (fun _ : Nat × Nat => True) (X2_init_W cs h) 2 512 := by
  refine l_met (X := TrX) (cc := cX2_init) (maxL := 1) (ret := none) (by decide) rfl (Nat.le_of_ble_eq_true rfl) ?_
  intro pg e s m args below meth c ls hx hb hr hml hts hown hmn hlocks hsz hP hD hK hN hS hA hl _
  have hown : s.vm.findClass RX2 = some m.cls := hown
  have hmn : meth.name = "<init>" := hmn
  have hl : lv_has ls 1 [(0, .ref h)] := hl
  refine lv_aload_n hx hb dX2_init_0 rfl (lv_at hl 0 rfl) ?_
  refine W.objInit hx hb hown (hts _ (List.mem_of_getElem? (i := 1) rfl)) (hts _ (List.mem_of_getElem? (i := 2) rfl)) (hts _ (List.mem_of_getElem? (i := 3) rfl)) rfl (by rw [hml]; exact hl.1) rfl dX2_init_1 (Nat.le_of_ble_eq_true rfl) (Nat.le_of_ble_eq_true rfl) ?_
  refine lv_aload_n hx hb dX2_init_4 rfl (lv_at hl 0 rfl) ?_
  refine lv_sipush (v := nI 256) hx hb dX2_init_5 (by decide) ?_
  refine r_newI (n := 256) hx hb (hts _ (List.mem_of_getElem? (i := 4) rfl)) hK hP hD hS hA (by decide) (Nat.le_of_ble_eq_true rfl) (Nat.le_of_ble_eq_true rfl) (Nat.le_of_ble_eq_true rfl) dX2_init_8 (fun q1 H hP hD hS => ?_)
  refine va_putF (ci := 2) (v := .ref q1) (ty := .array .int) (C := RX2) (T := TX2) (N := 3) hx hb hts (fun _ h => List.mem_cons_of_mem _ (List.mem_append_right _ h)) tyX2 tyX2_ok nmX2 hown hK hP hD hS 0 rfl rfl 0 (by decide) (hts _ (List.mem_of_getElem? (i := 5) rfl)) (fun _ h9 => h9) rfl hmn rfl (tyX2_ok 0 (by decide)) rfl rfl (Nat.le_of_ble_eq_true rfl) dX2_init_10 (fun H locs hP hD hS => ?_)
  have hP : va_P D vwCl [(h, .inr (2, [.ref q1, .null, .int 0])), (q1, .inl (cs 0, 256, .inl (fun _ => 0)))] H := hP
  have hD : va_D (va_A [(h, (.inr (2, [.null, .null, .int 0])))] sz) [(h, .inr (2, [.ref q1, .null, .int 0])), (q1, .inl (cs 0, 256, .inl (fun _ => 0)))] := hD
  refine lv_aload_n hx hb dX2_init_13 rfl (lv_at hl 0 rfl) ?_
  refine lv_sipush (v := nI 256) hx hb dX2_init_14 (by decide) ?_
  refine r_newI (n := 256) hx hb (hts _ (List.mem_of_getElem? (i := 4) rfl)) hK hP hD hS hA (by decide) (Nat.le_of_ble_eq_true rfl) (Nat.le_of_ble_eq_true rfl) (Nat.le_of_ble_eq_true rfl) dX2_init_17 (fun q2 H hP hD hS => ?_)
  refine va_putF (ci := 2) (v := .ref q2) (ty := .array .int) (C := RX2) (T := TX2) (N := 3) hx hb hts (fun _ h => List.mem_cons_of_mem _ (List.mem_append_right _ h)) tyX2 tyX2_ok nmX2 hown hK hP hD hS 0 rfl rfl 1 (by decide) (hts _ (List.mem_of_getElem? (i := 6) rfl)) (fun _ h9 => h9) rfl hmn rfl (tyX2_ok 1 (by decide)) rfl rfl (Nat.le_of_ble_eq_true rfl) dX2_init_19 (fun H locs hP hD hS => ?_)
  have hP : va_P D vwCl [(h, .inr (2, [.ref q1, .ref q2, .int 0])), (q1, .inl (cs 0, 256, .inl (fun _ => 0))), (q2, .inl (cs 0, 256, .inl (fun _ => 0)))] H := hP
  have hD : va_D (va_A [(h, (.inr (2, [.null, .null, .int 0])))] sz) [(h, .inr (2, [.ref q1, .ref q2, .int 0])), (q1, .inl (cs 0, 256, .inl (fun _ => 0))), (q2, .inl (cs 0, 256, .inl (fun _ => 0)))] := hD
  exact c_vret (Wf := X2_init_W cs h) (q1, q2) hx hb hr hlocks hP hD hS trivial dX2_init_22
