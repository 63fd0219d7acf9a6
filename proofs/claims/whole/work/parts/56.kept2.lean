def kAO (U : State) : Prop := (Cond.arrayOver (.array .int)).before #[] U = true
theorem kAO.moved {u U : State} (h : u.vm.Alike U.vm) (q : kAO u) : kAO U := over_moved h q
theorem kAO.use {args : Array Value} {U : State} (q : kAO U) : (Cond.arrayOver (.array .int)).before args U = true := over_moved (Vm.Alike.refl _) q
theorem g_metE {X : State → Prop} {l : Launch} {y : MethodName} {ws ws' : List Cond} {rm : Room} {K : List Nat} {cs : Nat → ClassId} {D : va_G} {ad : Nat → Nat} {I : Mm} {sz : Nat} {av : List Value} {Qc : Array Value → State → Outcome → State → Prop} {mc ms : Nat} {cc : ByteArray} {maxL : Nat} {ret : Option FieldType}
    (hy : plainName y.cls = true) (hw : ws = Cond.code y cc maxL ret :: ws') (hlen : (lg_sl av).length ≤ maxL)
    (body : ∀ (p : Program) (e : Env) (s : State) (m : MethodId) (args : Array Value) (below : List Frame) (meth : Method) (c : Code) (ls : Array Slot), p.tables.exec = Jvm.exec → c.code = cc → meth.sig.returnType = ret → c.maxLocals = maxL → (∀ w ∈ ws, w.before args s = true) → s.vm.findClass y.cls = some m.cls → meth.locks = false → s.heap.size = sz → va_P D vwCl (gw K cs ad I) s.heap → va_D (gA K ad sz) (gw K cs ad I) → va_K D vwCl (tyA cs) s → NW s → va_S (gA K ad sz) s.heap s.heap [] → (∀ q, s.heap.size ≤ q → gA K ad sz q) → lv_has ls maxL (lv_args 0 av) → X s →
      W p l e rm s m args below meth c s.heap [] 0 0 (MQ below Qc args s mc ms (gA K ad sz)) (F0 m 0 ls [])) :
    Met l y ws rm (va_Pc av (fun U => wpre K cs D ad I sz U ∧ X U)) Qc mc ms (gA K ad sz) := by
  refine Met.ofW (cc := cc) (maxL := maxL) (ret := ret) hy hw ?_
  intro p e s m args below meth c s₁ B hml hv
  obtain ⟨rfl, ⟨hsz, hP, hK, hD0, hN⟩, hX⟩ := hv
  have hl := lv_entry av (n := maxL) hlen
  rw [lg_entry_eq]
  generalize (lg_sl av ++ List.replicate (maxL - (lg_sl av).length) Slot.unset).toArray = ls at hl ⊢
  exact body p e s m _ below meth c ls B.exec B.bytes B.returns hml (atoms_spec (ws := ws) B.pre) (findClass_of_methodNamed B.named) B.notSynchronized hsz hP (gA_self hD0) hK hN va_S.rf (fun q h => Or.inr (by rw [← hsz]; exact h)) hl hX
/-- a world that is a plain list -/
def lpre (ws : va_W) (cs : Nat → ClassId) (D : va_G) (sz : Nat) (U : State) : Prop := U.heap.size = sz ∧ va_P D vwCl ws U.heap ∧ va_K D vwCl (tyA cs) U ∧ va_D (fun _ => True) ws ∧ NW U
theorem l_met {X : State → Prop} {l : Launch} {y : MethodName} {wds wds' : List Cond} {rm : Room} {ws : va_W} {cs : Nat → ClassId} {D : va_G} {sz : Nat} {av : List Value} {Qc : Array Value → State → Outcome → State → Prop} {mc ms : Nat} {cc : ByteArray} {maxL : Nat} {ret : Option FieldType}
    (hy : plainName y.cls = true) (hw : wds = Cond.code y cc maxL ret :: wds') (hlen : (lg_sl av).length ≤ maxL)
    (body : ∀ (p : Program) (e : Env) (s : State) (m : MethodId) (args : Array Value) (below : List Frame) (meth : Method) (c : Code) (ls : Array Slot), p.tables.exec = Jvm.exec → c.code = cc → meth.sig.returnType = ret → c.maxLocals = maxL → (∀ w ∈ wds, w.before args s = true) → s.vm.findClass y.cls = some m.cls → meth.name = y.name → meth.locks = false → s.heap.size = sz → va_P D vwCl ws s.heap → va_D (va_A ws sz) ws → va_K D vwCl (tyA cs) s → NW s → va_S (va_A ws sz) s.heap s.heap [] → (∀ q, s.heap.size ≤ q → va_A ws sz q) → lv_has ls maxL (lv_args 0 av) → X s →
      W p l e rm s m args below meth c s.heap [] 0 0 (MQ below Qc args s mc ms (va_A ws sz)) (F0 m 0 ls [])) :
    Met l y wds rm (va_Pc av (fun U => lpre ws cs D sz U ∧ X U)) Qc mc ms (va_A ws sz) := by
  refine Met.ofW (cc := cc) (maxL := maxL) (ret := ret) hy hw ?_
  intro p e s m args below meth c s₁ B hml hv
  obtain ⟨rfl, ⟨hsz, hP, hK, hD0, hN⟩, hX⟩ := hv
  have hl := lv_entry av (n := maxL) hlen
  rw [lg_entry_eq]
  generalize (lg_sl av ++ List.replicate (maxL - (lg_sl av).length) Slot.unset).toArray = ls at hl ⊢
  exact body p e s m _ below meth c ls B.exec B.bytes B.returns hml (atoms_spec (ws := wds) B.pre) (findClass_of_methodNamed B.named) (name_of_methodNamed B.named B.method).1 B.notSynchronized hsz hP hD0.self hK hN va_S.rf (fun q h => Or.inr (by rw [← hsz]; exact h)) hl hX
section LPRE
variable {X : State → Prop} {s : State} {H : Heap} {D : va_G} {cs : Nat → ClassId} {A : Nat → Prop} {ws : va_W} {sz : Nat}
theorem l_blind {av : List Value} (hXb : ∀ u U : State, u.vm.Alike U.vm → X u → X U) : FrameBlind (va_Pc av (fun U => lpre ws cs D sz U ∧ X U)) := fun a U g mk q => ⟨q.1, ⟨q.2.1.1, q.2.1.2.1, va_K.moved (u := U) (U := U.calling g mk a) (Vm.Alike.refl U.vm) q.2.1.2.2.1, q.2.1.2.2.2.1, NW.same (u := U) (U := U.calling g mk a) rfl q.2.1.2.2.2.2⟩, hXb U (U.calling g mk a) (Vm.Alike.refl U.vm) q.2.2⟩
theorem l_preS {As : List Value} (hXb : ∀ u U : State, u.vm.Alike U.vm → X u → X U) (hP : va_P D vwCl ws H) (hD : va_D A ws) (hK : va_K D vwCl (tyA cs) s) (hN : NW s) (hX : X s) : PreS s H (va_Pc As (fun U => lpre ws cs D H.size U ∧ X U)) As :=
  ⟨l_blind hXb, fun U hU hW => ⟨rfl, ⟨by rw [hU], by rw [hU]; exact hP, va_K.moved hW.alike hK, hD.weaken (fun _ _ _ _ => trivial), NW.warm hW hN⟩, hXb s U hW.alike hX⟩⟩
theorem l_preV {As : List Value} {C : String} {b : Nat} (hXb : ∀ u U : State, u.vm.Alike U.vm → X u → X U) (hP : va_P D vwCl ws H) (hD : va_D A ws) (hK : va_K D vwCl (tyA cs) s) (hN : NW s) (hX : X s) {q0 ci : Nat} {fs : List Value} {q : vw_C} (hc : vwCl[ci]? = some q) (he : ws[q0]? = some (b, .inr (ci, fs))) (hq : q.1 = C) : PreV s H C b (va_Pc (.ref b :: As) (fun U => lpre ws cs D H.size U ∧ X U)) As := by
  subst hq
  exact ⟨l_blind hXb, va_recv hK hP hc he, (l_preS (As := .ref b :: As) hXb hP hD hK hN hX).2⟩
theorem g_preVE {K : List Nat} {ad : Nat → Nat} {I : Mm} {As : List Value} {C : String} {b : Nat} (hP : va_P D vwCl (gw K cs ad I) H) (hD : va_D A (gw K cs ad I)) (hK : va_K D vwCl (tyA cs) s) (hN : NW s) (hAO : kAO s) {k κ ci : Nat} {fs : List Value} {q : vw_C} (hk : K.getD k 0 = κ) (h0 : κ ≠ 0) (he : cw cs κ (fun d => ad (k + d)) (I k) = .inr (ci, fs)) (hc : vwCl[ci]? = some q) (hq : q.1 = C) (hb : ad k = b) : PreV s H C b (va_Pc (.ref b :: As) (fun U => wpre K cs D ad I H.size U ∧ kAO U)) As := by
  have h1 := g_preV (As := As) hP hD hK hN hk h0 he hc hq hb
  refine ⟨fun a U g mk q => ?_, h1.2.1, fun U hU hW => ⟨(h1.2.2 U hU hW).1, (h1.2.2 U hU hW).2, kAO.moved hW.alike hAO⟩⟩
  have h2 := h1.1 a U g mk ⟨q.1, q.2.1⟩
  exact ⟨h2.1, h2.2, kAO.moved (u := U) (U := U.calling g mk a) (Vm.Alike.refl U.vm) q.2.2⟩
end LPRE
/-- a world beside another -/
def Ap (K : List Nat) (ad : Nat → Nat) (ws : va_W) : Prop := ∀ (j : Nat) (q : Nat × va_E), ws[j]? = some q → ∀ i, i < K.length → q.1 ≠ ad i
theorem Ap.keep {K : List Nat} {ad : Nat → Nat} {ws : va_W} {D : va_G} {cl : List vw_C} {H H1 : Heap} (h : Ap K ad ws) (hP : va_P D cl ws H) (hk : ∀ q : Nat, q < H.size → ¬ gA K ad H.size q → H1[q]? = H[q]?) : va_P D cl ws H1 :=
  hP.kept (fun k q hq => hk q.1 ((hP k q hq).lt) (fun y => y.elim (fun ⟨i, hi, e⟩ => h k q hq i hi e) (fun y => absurd ((hP k q hq).lt) (Nat.not_lt.mpr y))))
theorem Ap.of {K : List Nat} {cs : Nat → ClassId} {ad : Nat → Nat} {I : Mm} {ws : va_W} {A : Nat → Prop} (h : va_D A (gw K cs ad I ++ ws)) : Ap K ad ws := fun j q hq i hi e => by
  have hl := gw_len K cs ad I
  have h1 : (gw K cs ad I ++ ws)[i]? = some (ad i, cw cs (K.getD i 0) (fun d => ad (i + d)) (I i)) := app_lt (gw_get hi)
  have h2 : (gw K cs ad I ++ ws)[K.length + j]? = some q := by
    rw [List.getElem?_append_right (by omega), hl, Nat.add_sub_cancel_left]; exact hq
  have := h.1 i (K.length + j) _ _ h1 h2 e.symm
  omega
theorem app_rt {L E : va_W} {k : Nat} {q : Nat × va_E} (h : E[k]? = some q) : (L ++ E)[L.length + k]? = some q := by
  rw [List.getElem?_append_right (by omega), Nat.add_sub_cancel_left]; exact h
theorem P_left {D : va_G} {cl : List vw_C} {w1 w2 : va_W} {H : Heap} (h : va_P D cl (w1 ++ w2) H) : va_P D cl w1 H := fun k q hk => h k q (app_lt hk)
theorem P_right {D : va_G} {cl : List vw_C} {w1 w2 : va_W} {H : Heap} (h : va_P D cl (w1 ++ w2) H) : va_P D cl w2 H := fun k q hk => h (w1.length + k) q (app_rt hk)
theorem D_left {A : Nat → Prop} {w1 w2 : va_W} (h : va_D A (w1 ++ w2)) : va_D A w1 := ⟨fun i j p q hp hq e => h.1 i j p q (app_lt hp) (app_lt hq) e, fun k q hk => h.2 k q (app_lt hk)⟩
theorem D_right {A : Nat → Prop} {w1 w2 : va_W} (h : va_D A (w1 ++ w2)) : va_D A w2 := ⟨fun i j p q hp hq e => by
  have := h.1 _ _ p q (app_rt hp) (app_rt hq) e
  omega, fun k q hk => h.2 _ q (app_rt hk)⟩
theorem A_free {A : Nat → Prop} {ws : va_W} {H0 H : Heap} {locs : List Loc} (hD : va_D A ws) (hS : va_S A H0 H locs) (hA : ∀ q, H0.size ≤ q → A q) : ∀ q, va_A ws H.size q → A q := by
  intro q h
  rcases h with ⟨k, e, hk⟩ | h
  · exact hD.2 k _ hk
  · exact hA q (Nat.le_trans hS.1 h)
section GK
variable {p : Program} {l : Launch} {e : Env} {R : Room} {s : State} {m : MethodId} {args : Array Value} {below : List Frame} {meth : Method} {c : Code} {H : Heap} {locs : List Loc} {cells slots : Nat} {Q : State → Prop}
variable {pc : Nat} {ls : Array Slot} {rest st0 : List Value} {D : va_G} {K : List Nat} {cs : Nat → ClassId} {ad : Nat → Nat} {I : Mm} {A : Nat → Prop} {H0 : Heap} {a : Array Value} {mc ms : Nat} {ws : va_W}
theorem g_callFK {F : Int32} (hPK : va_P D vwCl ws H) (hap : Ap K ad ws) (hD : va_D A (gw K cs ad I)) (hS : va_S A H0 H locs) (hA : ∀ q, H0.size ≤ q → A q) (hr : va_Run p l e R s m args below meth c H locs cells slots mc ms (F0 m pc ls st0) rest (va_Qi (fun r u => r = F ∧ u = I) (wat K cs D ad (gA K ad H.size)) (gA K ad H.size) a) (gA K ad H.size))
    (kk : ∀ (H1 : Heap) (locs1 : List Loc), va_P D vwCl ws H1 → va_P D vwCl (gw K cs ad I) H1 → va_D A (gw K cs ad I) → va_S A H0 H1 locs1 → W p l e R s m args below meth c H1 locs1 (cells + mc) (slots + ms) Q (F0 m (pc + 3) ls (.int F :: rest))) : W p l e R s m args below meth c H locs cells slots Q (F0 m pc ls st0) :=
  va_calli hr hS (fun q _ h => gA_free hD hS hA q h) (gA_free hD hS hA) (fun r u t H1 locs1 ht hvm hw hB hz1 hk1 hS1 => by obtain ⟨h1, h2⟩ := hw; subst h1; subst h2; exact kk H1 locs1 (hap.keep hPK hk1) (by rw [← ht]; exact hB.1) (hB.2.weaken (fun _ _ _ h => gA_free hD hS hA _ h)) hS1)
theorem g_callvK {post : Mm → Prop} (hPK : va_P D vwCl ws H) (hap : Ap K ad ws) (hD : va_D A (gw K cs ad I)) (hS : va_S A H0 H locs) (hA : ∀ q, H0.size ≤ q → A q) (hr : va_Run p l e R s m args below meth c H locs cells slots mc ms (F0 m pc ls st0) rest (va_Qv post (wat K cs D ad (gA K ad H.size)) (gA K ad H.size) a) (gA K ad H.size))
    (kk : ∀ (u : Mm) (H1 : Heap) (locs1 : List Loc), post u → va_P D vwCl ws H1 → va_P D vwCl (gw K cs ad u) H1 → va_D A (gw K cs ad u) → va_S A H0 H1 locs1 → W p l e R s m args below meth c H1 locs1 (cells + mc) (slots + ms) Q (F0 m (pc + 3) ls rest)) : W p l e R s m args below meth c H locs cells slots Q (F0 m pc ls st0) :=
  va_callv hr hS (fun q _ h => gA_free hD hS hA q h) (gA_free hD hS hA) (fun u t H1 locs1 ht hvm hw hB hz1 hk1 hS1 => kk u H1 locs1 hw (hap.keep hPK hk1) (by rw [← ht]; exact hB.1) (hB.2.weaken (fun _ _ _ h => gA_free hD hS hA _ h)) hS1)
end GK
theorem k_zero {k : Nat} (hk : kM.getD k 0 = 10) : k = 0 := by
  have key : ∀ k, k < 7 → kM.getD k 0 = 10 → k = 0 := by decide +kernel
  exact key k (gk_lt hk (by decide)) hk
abbrev kpF (qs : Nat → Nat) : Nat → Option Nat := va_up (va_up (va_up (va_up (va_up (fun _ => none) 0 (some (qs 0))) 1 (some (qs 1))) 2 (some (qs 2))) 3 (some (qs 3))) 4 (some (qs 4))
/-- what kept lays beside the world -/
abbrev kpW (cs : Nat → ClassId) (k : Nat) (I : Mm) (qA : Nat) (qs : Nat → Nat) : va_W := [(qA, rfA (kpF qs) (cs 2) 5), (qs 0, .inl (cs 0, 256, .inl (I (k + 1)))), (qs 1, .inl (cs 0, 256, .inl (I (k + 2)))), (qs 2, .inl (cs 0, 256, .inl (I (k + 3)))), (qs 3, .inl (cs 0, 248, .inl (I (k + 4)))), (qs 4, .inl (cs 0, 4, .inl (I (k + 5))))]
abbrev qs5 (a b c d e : Nat) : Nat → Nat := fun i => match i with | 0 => a | 1 => b | 2 => c | 3 => d | _ => e
set_option maxHeartbeats 4000000 in
set_option maxRecDepth 100000 in
theorem c_X6_kept (l : Launch) (D : va_G) (cs : Nat → ClassId) (ad : Nat → Nat) (I : Mm) (sz : Nat) (k : Nat) (hk : kM.getD k 0 = 10) : Met l yX6_kept wsX6_kept ({ frames := 1, cells := 6, slots := 1025, locals := 40 }) (va_Pc [.ref (ad k)] (fun U => wpre kM cs D ad I sz U ∧ kAO U)) (va_Qr (fun _ : Nat → Nat => True) (fun qs qA t => va_P D vwCl (gw kM cs ad I ++ kpW cs k I qA qs) t.heap ∧ va_D (gA kM ad sz) (gw kM cs ad I ++ kpW cs k I qA qs)) (gA kM ad sz)) 6 1025 (gA kM ad sz) := by
  refine g_metE (cc := cX6_kept) (maxL := 1) (ret := (some (.array (.array .int)))) (by decide) rfl (Nat.le_of_ble_eq_true rfl) ?_
  intro pg e s m args below meth c ls hx hb hr hml hts hown hlocks hsz hP hD hK hN hS hA hl hAO
  have hown : s.vm.findClass RX6 = some m.cls := hown
  have hl : lv_has ls 1 [(0, .ref (ad k))] := hl
  have hml' : c.maxLocals = ls.size := hml.trans hl.1.symm
  have hcl : (Cond.classLink RX6 151 (FieldType.array .int).toString).before args s = true := hts (.classLink RX6 151 "[I") (List.mem_of_getElem? (i := 1) rfl)
  refine lv_iconst (v := nI 5) hx hb dX6_kept_0 (by decide) ?_
  refine ra_new (t0 := 2) (cA := cs 2) (n := nI 5) (N' := 5) hx hb hown hcl (kAO.use hAO) hK rfl hP hD hS hA (nI_pos (by decide)) (nI_clamp (by decide)) (Nat.le_of_ble_eq_true rfl) (Nat.le_of_ble_eq_true rfl) (Nat.le_of_ble_eq_true rfl) dX6_kept_1 (fun qA H hAR hP hD hS => ?_)
  refine kp_step (own := RX6) (own2 := RX6) (j := 0) (off := 1) (κ := 8) (n := 256) (index := 9) (sj := 1) hx hb hml' hown hts (fun _ h => List.mem_cons_of_mem _ (List.mem_append_right _ h)) (hts _ (List.mem_of_getElem? (i := 3) rfl)) (hts _ (List.mem_of_getElem? (i := 4) rfl)) (hts _ (List.mem_of_getElem? (i := 5) rfl)) (hts _ (List.mem_of_getElem? (i := 6) rfl)) (hts _ (List.mem_of_getElem? (i := 7) rfl)) (nwv26 hN) (hts _ (List.mem_of_getElem? (i := 1) rfl)) hK hAR hP hD hS hA hk (by decide) (by decide) (hts _ (List.mem_of_getElem? (i := 2) rfl)) (fun _ h9 => h9) rfl (kd_10_1 hk) (by decide) rfl hl (kl := 0) rfl dX6_kept_4 dX6_kept_5 dX6_kept_6 dX6_kept_7 dX6_kept_10 dX6_kept_13 dX6_kept_16 (Nat.le_of_ble_eq_true rfl) (Nat.le_of_ble_eq_true rfl) (Nat.le_of_ble_eq_true rfl) (Nat.le_of_ble_eq_true rfl) (fun q0 H locs0 hP hD hS => ?_)
  refine kp_step (own := RX6) (own2 := RX6) (j := 1) (off := 2) (κ := 8) (n := 256) (index := 13) (sj := 2) hx hb hml' hown hts (fun _ h => List.mem_cons_of_mem _ (List.mem_append_right _ h)) (hts _ (List.mem_of_getElem? (i := 3) rfl)) (hts _ (List.mem_of_getElem? (i := 4) rfl)) (hts _ (List.mem_of_getElem? (i := 5) rfl)) (hts _ (List.mem_of_getElem? (i := 6) rfl)) (hts _ (List.mem_of_getElem? (i := 7) rfl)) (nwv26 hN) (hts _ (List.mem_of_getElem? (i := 1) rfl)) hK hAR hP hD hS hA hk (by decide) (by decide) (hts _ (List.mem_of_getElem? (i := 8) rfl)) (fun _ h9 => h9) rfl (kd_10_2 hk) (by decide) rfl hl (kl := 0) rfl dX6_kept_17 dX6_kept_18 dX6_kept_19 dX6_kept_20 dX6_kept_23 dX6_kept_26 dX6_kept_29 (Nat.le_of_ble_eq_true rfl) (Nat.le_of_ble_eq_true rfl) (Nat.le_of_ble_eq_true rfl) (Nat.le_of_ble_eq_true rfl) (fun q1 H locs1 hP hD hS => ?_)
  refine kp_step (own := RX6) (own2 := RX6) (j := 2) (off := 3) (κ := 8) (n := 256) (index := 16) (sj := 3) hx hb hml' hown hts (fun _ h => List.mem_cons_of_mem _ (List.mem_append_right _ h)) (hts _ (List.mem_of_getElem? (i := 3) rfl)) (hts _ (List.mem_of_getElem? (i := 4) rfl)) (hts _ (List.mem_of_getElem? (i := 5) rfl)) (hts _ (List.mem_of_getElem? (i := 6) rfl)) (hts _ (List.mem_of_getElem? (i := 7) rfl)) (nwv26 hN) (hts _ (List.mem_of_getElem? (i := 1) rfl)) hK hAR hP hD hS hA hk (by decide) (by decide) (hts _ (List.mem_of_getElem? (i := 9) rfl)) (fun _ h9 => h9) rfl (kd_10_3 hk) (by decide) rfl hl (kl := 0) rfl dX6_kept_30 dX6_kept_31 dX6_kept_32 dX6_kept_33 dX6_kept_36 dX6_kept_39 dX6_kept_42 (Nat.le_of_ble_eq_true rfl) (Nat.le_of_ble_eq_true rfl) (Nat.le_of_ble_eq_true rfl) (Nat.le_of_ble_eq_true rfl) (fun q2 H locs2 hP hD hS => ?_)
  refine kp_step (own := RX6) (own2 := RX6) (j := 3) (off := 4) (κ := 11) (n := 248) (index := 19) (sj := 4) hx hb hml' hown hts (fun _ h => List.mem_cons_of_mem _ (List.mem_append_right _ h)) (hts _ (List.mem_of_getElem? (i := 3) rfl)) (hts _ (List.mem_of_getElem? (i := 4) rfl)) (hts _ (List.mem_of_getElem? (i := 5) rfl)) (hts _ (List.mem_of_getElem? (i := 6) rfl)) (hts _ (List.mem_of_getElem? (i := 7) rfl)) (nwv26 hN) (hts _ (List.mem_of_getElem? (i := 1) rfl)) hK hAR hP hD hS hA hk (by decide) (by decide) (hts _ (List.mem_of_getElem? (i := 10) rfl)) (fun _ h9 => h9) rfl (kd_10_4 hk) (by decide) rfl hl (kl := 0) rfl dX6_kept_43 dX6_kept_44 dX6_kept_45 dX6_kept_46 dX6_kept_49 dX6_kept_52 dX6_kept_55 (Nat.le_of_ble_eq_true rfl) (Nat.le_of_ble_eq_true rfl) (Nat.le_of_ble_eq_true rfl) (Nat.le_of_ble_eq_true rfl) (fun q3 H locs3 hP hD hS => ?_)
  refine kp_step (own := RX6) (own2 := RX6) (j := 4) (off := 5) (κ := 12) (n := 4) (index := 22) (sj := 5) hx hb hml' hown hts (fun _ h => List.mem_cons_of_mem _ (List.mem_append_right _ h)) (hts _ (List.mem_of_getElem? (i := 3) rfl)) (hts _ (List.mem_of_getElem? (i := 4) rfl)) (hts _ (List.mem_of_getElem? (i := 5) rfl)) (hts _ (List.mem_of_getElem? (i := 6) rfl)) (hts _ (List.mem_of_getElem? (i := 7) rfl)) (nwv26 hN) (hts _ (List.mem_of_getElem? (i := 1) rfl)) hK hAR hP hD hS hA hk (by decide) (by decide) (hts _ (List.mem_of_getElem? (i := 11) rfl)) (fun _ h9 => h9) rfl (kd_10_5 hk) (by decide) rfl hl (kl := 0) rfl dX6_kept_56 dX6_kept_57 dX6_kept_58 dX6_kept_59 dX6_kept_62 dX6_kept_65 dX6_kept_68 (Nat.le_of_ble_eq_true rfl) (Nat.le_of_ble_eq_true rfl) (Nat.le_of_ble_eq_true rfl) (Nat.le_of_ble_eq_true rfl) (fun q4 H locs4 hP hD hS => ?_)
  have hP : va_P D vwCl (gw kM cs ad I ++ kpW cs k I qA (qs5 q0 q1 q2 q3 q4)) H := hP
  have hD : va_D (gA kM ad sz) (gw kM cs ad I ++ kpW cs k I qA (qs5 q0 q1 q2 q3 q4)) := hD
  exact W.aret (v := .ref qA) hx hb hr (Or.inr ⟨_, rfl⟩) (Or.inr ⟨qA, rfl⟩) (fun t ht hW => ⟨⟨qs5 q0 q1 q2 q3 q4, qA, rfl, trivial, by rw [ht]; exact hP, hD⟩, hS.F ht⟩) hS.2.2 dX6_kept_69 hlocks
section RAGET
variable {p : Program} {l : Launch} {e : Env} {R : Room} {s : State} {m : MethodId} {args : Array Value} {below : List Frame} {meth : Method} {c : Code} {H : Heap} {locs : List Loc} {cells slots : Nat} {Q : State → Prop}
variable {cc : ByteArray} {pc : Nat} {ls : Array Slot} {rest : List Value} {D : va_G} {cl : List vw_C} {A : Nat → Prop} {a : Nat} {tys : List (ClassId × FieldType)} {ws : va_W} {H0 : Heap}
theorem ra_get (hexec : p.tables.exec = Jvm.exec) (hb : c.code = cc) (hK : va_K D cl tys s) (hP : va_P D cl ws H) (q0 t0 : Nat) {cA : ClassId} {n j v : Nat} {f : Nat → Option Nat} (ha : ws[q0]? = some (a, rfA f cA n)) (ht : tys[t0]? = some (cA, .array .int)) (hj : j < n) (hn : n < 2 ^ 31) (hv : f j = some v) (hdg : decode cc pc = .ok (.aaload, 1))
    (kk : W p l e R s m args below meth c H locs cells slots Q (F0 m (pc + 1) ls (.ref v :: rest))) : W p l e R s m args below meth c H locs cells slots Q (F0 m pc ls (.int (nI j) :: .ref a :: rest)) := by
  have hc : (nI j).toNatClampNeg = j := nI_clamp (by omega)
  have hin : vp_in (nI j) n := vp_in_nI hj hn
  refine W.aald (v := va_rf (f (nI j).toNatClampNeg)) (ty := .array .int) hexec hb (hP q0 _ ha) ((hK.2 t0 _ ht).1 n (fun j => va_rf (f j))) rfl (fun q => by cases q) (by show ¬ (nI j < 0 ∨ (arrV _ _ _).slots.size ≤ _); rw [arrV_size]; exact hin) (by show (arrV _ _ _).slots[_]? = _; rw [arrV_read _ _ (by rw [hc]; exact hj)]) rfl rfl hdg ?_
  rw [hc, hv]
  exact kk
end RAGET
abbrev bbA (ad : Nat → Nat) (qs : Nat → Nat) : Nat → Nat := fun i => match i with | 1 => qs 0 | 2 => qs 1 | 3 => qs 2 | 4 => qs 3 | 5 => qs 4 | i => ad i
abbrev bbI (I I0 : Mm) : Mm := fun i => match i with | 1 => I0 1 | 2 => I0 2 | 3 => I0 3 | 4 => I0 4 | 5 => I0 5 | i => I i
abbrev bbW (cs : Nat → ClassId) (ad : Nat → Nat) (I I0 : Mm) (qA : Nat) (qs : Nat → Nat) (r1 r2 r3 r4 r5 : Nat) : va_W := [(ad 0, .inr (6, [.int (I 0 0), .ref r1, .ref r2, .ref r3, .ref r4, .ref r5, .int (I 0 6), .ref (ad 6)])), (ad 1, .inl (cs 0, 256, .inl (I 1))), (ad 2, .inl (cs 0, 256, .inl (I 2))), (ad 3, .inl (cs 0, 256, .inl (I 3))), (ad 4, .inl (cs 0, 248, .inl (I 4))), (ad 5, .inl (cs 0, 4, .inl (I 5))), (ad 6, .inl (cs 0, 256, .inl (I 6))), (qA, rfA (kpF qs) (cs 2) 5), (qs 0, .inl (cs 0, 256, .inl (I0 1))), (qs 1, .inl (cs 0, 256, .inl (I0 2))), (qs 2, .inl (cs 0, 256, .inl (I0 3))), (qs 3, .inl (cs 0, 248, .inl (I0 4))), (qs 4, .inl (cs 0, 4, .inl (I0 5)))]
theorem bb_world {cs : Nat → ClassId} {ad : Nat → Nat} {I I0 : Mm} {qA : Nat} {qs : Nat → Nat} : gw kM cs ad I ++ kpW cs 0 I0 qA qs = bbW cs ad I I0 qA qs (ad 1) (ad 2) (ad 3) (ad 4) (ad 5) := rfl
theorem bb_D {cs : Nat → ClassId} {ad : Nat → Nat} {I I0 : Mm} {qA : Nat} {qs : Nat → Nat} {A : Nat → Prop} (h : va_D A (gw kM cs ad I ++ kpW cs 0 I0 qA qs)) : va_D A (gw kM cs (bbA ad qs) (bbI I I0)) := by
  refine ⟨fun i j p q hp hq e => ?_, fun k q hk => ?_⟩
  · have key : ∀ i, i < 7 → ∃ x y, (gw kM cs (bbA ad qs) (bbI I I0))[i]? = some (bbA ad qs i, x) ∧ (gw kM cs ad I ++ kpW cs 0 I0 qA qs)[if i = 0 then 0 else if i = 6 then 6 else i + 7]? = some (bbA ad qs i, y) := by
      intro i hi
      rcases (show i = 0 ∨ i = 1 ∨ i = 2 ∨ i = 3 ∨ i = 4 ∨ i = 5 ∨ i = 6 from by omega) with rfl | rfl | rfl | rfl | rfl | rfl | rfl <;> exact ⟨_, _, rfl, rfl⟩
    have hi := (gw_inv hp).1
    have hj := (gw_inv hq).1
    obtain ⟨x, y, h1, h2⟩ := key i hi
    obtain ⟨x', y', h3, h4⟩ := key j hj
    have e1 : p.1 = bbA ad qs i := by rw [Option.some.inj (hp.symm.trans h1)]
    have e2 : q.1 = bbA ad qs j := by rw [Option.some.inj (hq.symm.trans h3)]
    have := h.1 _ _ _ _ h2 h4 (by show bbA ad qs i = bbA ad qs j; rw [← e1, ← e2, e])
    have hi' : i < 7 := hi
    have hj' : j < 7 := hj
    repeat' split at this
    all_goals omega
  · have hi : k < 7 := (gw_inv hk).1
    have e1 := (gw_inv hk).2
    rw [e1]
    rcases (show k = 0 ∨ k = 1 ∨ k = 2 ∨ k = 3 ∨ k = 4 ∨ k = 5 ∨ k = 6 from by omega) with rfl | rfl | rfl | rfl | rfl | rfl | rfl
    · exact h.2 0 _ rfl
    · exact h.2 8 _ rfl
    · exact h.2 9 _ rfl
    · exact h.2 10 _ rfl
    · exact h.2 11 _ rfl
    · exact h.2 12 _ rfl
    · exact h.2 6 _ rfl
set_option maxHeartbeats 4000000 in
set_option maxRecDepth 100000 in
theorem c_X6_bringBack (l : Launch) (D : va_G) (cs : Nat → ClassId) (ad : Nat → Nat) (I I0 : Mm) (sz : Nat) (k : Nat) (hk : kM.getD k 0 = 10) (qA : Nat) (qs : Nat → Nat) : Met l yX6_bringBack wsX6_bringBack ({ frames := 0, cells := 0, slots := 0, locals := 0 }) (va_Pc [.ref (ad k), .ref qA] (fun U => lpre (gw kM cs ad I ++ kpW cs k I0 qA qs) cs D sz U ∧ True)) (va_Qv (fun _ : Unit => True) (fun _ t => va_P D vwCl (gw kM cs (bbA ad qs) (bbI I I0)) t.heap) (va_A (gw kM cs ad I ++ kpW cs k I0 qA qs) sz)) 0 0 (va_A (gw kM cs ad I ++ kpW cs k I0 qA qs) sz) := by
  obtain rfl := k_zero hk
  refine l_met (X := fun _ => True) (cc := cX6_bringBack) (maxL := 2) (ret := none) (by decide) rfl (Nat.le_of_ble_eq_true rfl) ?_
  intro pg e s m args below meth c ls hx hb hr hml hts hown hmn hlocks hsz hP hD hK hN hS hA hl _
  have hown : s.vm.findClass RX6 = some m.cls := hown
  have hl : lv_has ls 2 [(0, .ref (ad 0)), (1, .ref qA)] := hl
  rw [bb_world] at hP hD hS hA ⊢
  refine lv_aload_n hx hb dX6_bringBack_0 rfl (lv_at hl 0 rfl) ?_
  refine lv_aload_n hx hb dX6_bringBack_1 rfl (lv_at hl 1 rfl) ?_
  refine lv_iconst (v := nI 0) hx hb dX6_bringBack_2 (by decide) ?_
  refine ra_get (j := 0) (v := qs 0) hx hb hK hP 7 2 rfl rfl (by decide) (by decide) rfl dX6_bringBack_3 ?_
  refine va_put (ci := 6) (v := .ref (qs 0)) (ty := .array .int) (C := RX6) (T := TX6) (N := 8) hx hb hts (fun _ h => List.mem_cons_of_mem _ (List.mem_append_right _ h)) tyX6 tyX6_ok nmX6 hown hK hP hD hS 0 rfl rfl 1 (by decide) (hts _ (List.mem_of_getElem? (i := 1) rfl)) (fun _ h9 => h9) rfl (tyX6_ok 1 (by decide)) rfl rfl (Nat.le_of_ble_eq_true rfl) dX6_bringBack_4 (fun H locs hP hD hS => ?_)
  have hP : va_P D vwCl (bbW cs ad I I0 qA qs (qs 0) (ad 2) (ad 3) (ad 4) (ad 5)) H := hP
  have hD : va_D (va_A (bbW cs ad I I0 qA qs (ad 1) (ad 2) (ad 3) (ad 4) (ad 5)) sz) (bbW cs ad I I0 qA qs (qs 0) (ad 2) (ad 3) (ad 4) (ad 5)) := hD
  refine lv_aload_n hx hb dX6_bringBack_7 rfl (lv_at hl 0 rfl) ?_
  refine lv_aload_n hx hb dX6_bringBack_8 rfl (lv_at hl 1 rfl) ?_
  refine lv_iconst (v := nI 1) hx hb dX6_bringBack_9 (by decide) ?_
  refine ra_get (j := 1) (v := qs 1) hx hb hK hP 7 2 rfl rfl (by decide) (by decide) rfl dX6_bringBack_10 ?_
  refine va_put (ci := 6) (v := .ref (qs 1)) (ty := .array .int) (C := RX6) (T := TX6) (N := 8) hx hb hts (fun _ h => List.mem_cons_of_mem _ (List.mem_append_right _ h)) tyX6 tyX6_ok nmX6 hown hK hP hD hS 0 rfl rfl 2 (by decide) (hts _ (List.mem_of_getElem? (i := 2) rfl)) (fun _ h9 => h9) rfl (tyX6_ok 2 (by decide)) rfl rfl (Nat.le_of_ble_eq_true rfl) dX6_bringBack_11 (fun H locs hP hD hS => ?_)
  have hP : va_P D vwCl (bbW cs ad I I0 qA qs (qs 0) (qs 1) (ad 3) (ad 4) (ad 5)) H := hP
  have hD : va_D (va_A (bbW cs ad I I0 qA qs (ad 1) (ad 2) (ad 3) (ad 4) (ad 5)) sz) (bbW cs ad I I0 qA qs (qs 0) (qs 1) (ad 3) (ad 4) (ad 5)) := hD
  refine lv_aload_n hx hb dX6_bringBack_14 rfl (lv_at hl 0 rfl) ?_
  refine lv_aload_n hx hb dX6_bringBack_15 rfl (lv_at hl 1 rfl) ?_
  refine lv_iconst (v := nI 2) hx hb dX6_bringBack_16 (by decide) ?_
  refine ra_get (j := 2) (v := qs 2) hx hb hK hP 7 2 rfl rfl (by decide) (by decide) rfl dX6_bringBack_17 ?_
  refine va_put (ci := 6) (v := .ref (qs 2)) (ty := .array .int) (C := RX6) (T := TX6) (N := 8) hx hb hts (fun _ h => List.mem_cons_of_mem _ (List.mem_append_right _ h)) tyX6 tyX6_ok nmX6 hown hK hP hD hS 0 rfl rfl 3 (by decide) (hts _ (List.mem_of_getElem? (i := 3) rfl)) (fun _ h9 => h9) rfl (tyX6_ok 3 (by decide)) rfl rfl (Nat.le_of_ble_eq_true rfl) dX6_bringBack_18 (fun H locs hP hD hS => ?_)
  have hP : va_P D vwCl (bbW cs ad I I0 qA qs (qs 0) (qs 1) (qs 2) (ad 4) (ad 5)) H := hP
  have hD : va_D (va_A (bbW cs ad I I0 qA qs (ad 1) (ad 2) (ad 3) (ad 4) (ad 5)) sz) (bbW cs ad I I0 qA qs (qs 0) (qs 1) (qs 2) (ad 4) (ad 5)) := hD
  refine lv_aload_n hx hb dX6_bringBack_21 rfl (lv_at hl 0 rfl) ?_
  refine lv_aload_n hx hb dX6_bringBack_22 rfl (lv_at hl 1 rfl) ?_
  refine lv_iconst (v := nI 3) hx hb dX6_bringBack_23 (by decide) ?_
  refine ra_get (j := 3) (v := qs 3) hx hb hK hP 7 2 rfl rfl (by decide) (by decide) rfl dX6_bringBack_24 ?_
  refine va_put (ci := 6) (v := .ref (qs 3)) (ty := .array .int) (C := RX6) (T := TX6) (N := 8) hx hb hts (fun _ h => List.mem_cons_of_mem _ (List.mem_append_right _ h)) tyX6 tyX6_ok nmX6 hown hK hP hD hS 0 rfl rfl 4 (by decide) (hts _ (List.mem_of_getElem? (i := 4) rfl)) (fun _ h9 => h9) rfl (tyX6_ok 4 (by decide)) rfl rfl (Nat.le_of_ble_eq_true rfl) dX6_bringBack_25 (fun H locs hP hD hS => ?_)
  have hP : va_P D vwCl (bbW cs ad I I0 qA qs (qs 0) (qs 1) (qs 2) (qs 3) (ad 5)) H := hP
  have hD : va_D (va_A (bbW cs ad I I0 qA qs (ad 1) (ad 2) (ad 3) (ad 4) (ad 5)) sz) (bbW cs ad I I0 qA qs (qs 0) (qs 1) (qs 2) (qs 3) (ad 5)) := hD
  refine lv_aload_n hx hb dX6_bringBack_28 rfl (lv_at hl 0 rfl) ?_
  refine lv_aload_n hx hb dX6_bringBack_29 rfl (lv_at hl 1 rfl) ?_
  refine lv_iconst (v := nI 4) hx hb dX6_bringBack_30 (by decide) ?_
  refine ra_get (j := 4) (v := qs 4) hx hb hK hP 7 2 rfl rfl (by decide) (by decide) rfl dX6_bringBack_31 ?_
  refine va_put (ci := 6) (v := .ref (qs 4)) (ty := .array .int) (C := RX6) (T := TX6) (N := 8) hx hb hts (fun _ h => List.mem_cons_of_mem _ (List.mem_append_right _ h)) tyX6 tyX6_ok nmX6 hown hK hP hD hS 0 rfl rfl 5 (by decide) (hts _ (List.mem_of_getElem? (i := 5) rfl)) (fun _ h9 => h9) rfl (tyX6_ok 5 (by decide)) rfl rfl (Nat.le_of_ble_eq_true rfl) dX6_bringBack_32 (fun H locs hP hD hS => ?_)
  have hP : va_P D vwCl (bbW cs ad I I0 qA qs (qs 0) (qs 1) (qs 2) (qs 3) (qs 4)) H := hP
  have hD : va_D (va_A (bbW cs ad I I0 qA qs (ad 1) (ad 2) (ad 3) (ad 4) (ad 5)) sz) (bbW cs ad I I0 qA qs (qs 0) (qs 1) (qs 2) (qs 3) (qs 4)) := hD
  have hPf : va_P D vwCl (gw kM cs (bbA ad qs) (bbI I I0)) H := hP.sub [0, 8, 9, 10, 11, 12, 6] rfl
  exact W.vret hx hb hr (fun t ht hW => ⟨⟨(), rfl, trivial, by show va_P D vwCl (gw kM cs (bbA ad qs) (bbI I I0)) t.heap; rw [ht]; exact hPf⟩, hS.F ht⟩) hS.2.2 dX6_bringBack_35 hlocks
