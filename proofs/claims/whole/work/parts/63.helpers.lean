abbrev lgE (cs : Nat → ClassId) (o : Nat → Int64) : va_E := .inl (cs 3, 1, .inr (.inl o))
/-- the class's world beside the cell of the answers -/
abbrev lX (cs : Nat → ClassId) (ad : Nat → Nat) (I : Mm) (qo : Nat) (o : Nat → Int64) : va_W := gw kC cs ad I ++ [(qo, lgE cs o)]
def hpre (ws : va_W) (cs : Nat → ClassId) (D : va_G) (sz : Nat) (U : State) : Prop := lpre ws cs D sz U ∧ XW (va_A ws sz) U U.heap
abbrev MetH (l : Launch) (y : MethodName) (wds : List Cond) (rm : Room) (cs : Nat → ClassId) (D : va_G) (ad : Nat → Nat) (I : Mm) (qo : Nat) (o : Nat → Int64) (sz : Nat) (av : List Value) (post : Int32 → Mm × (Nat → Int64) → Prop) (mc ms : Nat) : Prop := Met l y wds rm (va_Pc av (hpre (lX cs ad I qo o) cs D sz)) (va_Qi post (fun u t => va_P D vwCl (lX cs ad u.1 qo u.2) t.heap) (va_A (lX cs ad I qo o) sz)) mc ms (va_A (lX cs ad I qo o) sz)
/-- a code; the ghost's words; if the code is 0, an answer -/
def HP (tz : Nat) (J' : Mm) (Pa : Int32 → Prop) (r : Int32) (u : Mm × (Nat → Int64)) : Prop := r = nI tz ∧ FX 0 u.1 J' ∧ (tz = 0 → ∃ a, Pa a ∧ u.2 0 = a.toInt64)
theorem h_met {l : Launch} {y : MethodName} {wds wds' : List Cond} {rm : Room} {ws : va_W} {cs : Nat → ClassId} {D : va_G} {sz : Nat} {av : List Value} {Qc : Array Value → State → Outcome → State → Prop} {mc ms : Nat} {cc : ByteArray} {maxL : Nat} {ret : Option FieldType} {hh : List (Nat × Nat × Nat × Nat)}
    (hy : plainName y.cls = true) (hw : wds = Cond.codeWith y cc maxL ret hh :: wds') (hlen : (lg_sl av).length ≤ maxL)
    (body : ∀ (p : Program) (e : Env) (s : State) (m : MethodId) (args : Array Value) (below : List Frame) (meth : Method) (c : Code) (ls : Array Slot), p.tables.exec = Jvm.exec → c.code = cc → meth.sig.returnType = ret → c.maxLocals = maxL → (∀ w ∈ wds, w.before args s = true) → s.vm.findClass y.cls = some m.cls → meth.locks = false → s.heap.size = sz → va_P D vwCl ws s.heap → va_D (va_A ws sz) ws → va_K D vwCl (tyA cs) s → NW s → va_S (va_A ws sz) s.heap s.heap [] → (∀ q, s.heap.size ≤ q → va_A ws sz q) → lv_has ls maxL (lv_args 0 av) → XW (va_A ws sz) s s.heap → c.exceptionTable.toList = tableOf hh →
      W p l e rm s m args below meth c s.heap [] 0 0 (MQ below Qc args s mc ms (va_A ws sz)) (F0 m 0 ls [])) :
    Met l y wds rm (va_Pc av (hpre ws cs D sz)) Qc mc ms (va_A ws sz) := by
  refine va_MetW (cc := cc) (maxL := maxL) (ret := ret) (hh := hh) hy hw ?_
  intro p e s m args below meth c s₁ B hml hv
  obtain ⟨rfl, ⟨hsz, hP, hK, hD0, hN⟩, hX⟩ := hv
  have hl := lv_entry av (n := maxL) hlen
  rw [lg_entry_eq]
  generalize (lg_sl av ++ List.replicate (maxL - (lg_sl av).length) Slot.unset).toArray = ls at hl ⊢
  have hts := atoms_spec (ws := wds) B.pre
  exact body p e s m _ below meth c ls B.exec B.bytes B.returns hml hts (findClass_of_methodNamed B.named) B.notSynchronized hsz hP hD0.self hK hN va_S.rf (fun q h => Or.inr (by rw [← hsz]; exact h)) hl hX (vx_table (x := y) B (hts _ (by rw [hw]; exact List.mem_cons_self)))
theorem gA_of_A {K : List Nat} {cs : Nat → ClassId} {ad : Nat → Nat} {I : Mm} {Z : va_W} {sz : Nat} : ∀ q, gA K ad sz q → va_A (gw K cs ad I ++ Z) sz q := by
  intro q h
  rcases h with ⟨k, hk, rfl⟩ | h
  · exact Or.inl ⟨k, _, app_lt (gw_get hk)⟩
  · exact Or.inr h
theorem app_set0 {L : va_W} {x y : Nat × va_E} : (L ++ [x]).set L.length y = L ++ [y] := by
  rw [List.set_append_right _ _ (Nat.le_refl _), Nat.sub_self]; rfl
theorem gw_fst (K : List Nat) (cs : Nat → ClassId) (ad : Nat → Nat) (I : Mm) : (gw K cs ad I).map (fun q => q.1) = (List.range K.length).map ad := by
  simp [gw]
theorem lX_fst (cs : Nat → ClassId) (ad : Nat → Nat) (I : Mm) (qo : Nat) (o : Nat → Int64) : (lX cs ad I qo o).map (fun q => q.1) = (List.range kC.length).map ad ++ [qo] := by
  rw [List.map_append, gw_fst]; rfl
theorem lX_D {cs : Nat → ClassId} {ad : Nat → Nat} {I J : Mm} {qo : Nat} {o o' : Nat → Int64} {A : Nat → Prop} (h : va_D A (lX cs ad I qo o)) : va_D A (lX cs ad J qo o') := D_addr (by rw [lX_fst, lX_fst]) h
section HROW
variable {p : Program} {l : Launch} {e : Env} {R : Room} {s : State} {m : MethodId} {args : Array Value} {below : List Frame} {meth : Method} {c : Code} {H : Heap} {locs : List Loc} {cells slots : Nat} {Q : State → Prop}
variable {cc : ByteArray} {pc : Nat} {ls : Array Slot} {rest st0 : List Value} {D : va_G} {K : List Nat} {cs : Nat → ClassId} {ad : Nat → Nat} {I : Mm} {A : Nat → Prop} {H0 : Heap} {a : Array Value} {mc ms : Nat} {ws : va_W}
theorem g_xcalliK {post : Int32 → Mm → Prop} {thr : String → Prop} (hPK : va_P D vwCl ws H) (hap : Ap K ad ws) (hS : va_S A H0 H locs) (hgA : ∀ q, gA K ad H.size q → A q) (hr : vx_Run p l e R s m args below meth c H locs cells slots mc ms (F0 m pc ls st0) rest (va_Qi post (wat K cs D ad (gA K ad H.size)) (gA K ad H.size) a) (XC0 K cs D ad I H.size thr) (gA K ad H.size))
    (kx : ∀ (E : String) (ce : Cell) (q9 : Addr) (H1 : Heap) (locs1 : List Loc), thr E → va_P D vwCl ws H1 → va_P D vwCl (gw K cs ad I) H1 → va_S A H0 H1 locs1 → H1[q9]? = some ce → ce.vm = .none → s.vm.findClass E = some ce.cls → vx_W p l e R s m args below meth c H1 locs1 (cells + mc) (slots + ms) Q (F0 m pc ls rest) q9)
    (kk : ∀ (r : Int32) (u : Mm) (H1 : Heap) (locs1 : List Loc), post r u → va_P D vwCl ws H1 → va_P D vwCl (gw K cs ad u) H1 → va_S A H0 H1 locs1 → W p l e R s m args below meth c H1 locs1 (cells + mc) (slots + ms) Q (F0 m (pc + 3) ls (.int r :: rest))) : W p l e R s m args below meth c H locs cells slots Q (F0 m pc ls st0) :=
  vx_calli hr hS (fun q _ h => hgA q h) hgA (fun q _ h => hgA q h) (fun E ce q9 u t H1 locs1 ht hvm hw hB hz1 hk1 hS1 h1 h2 h3 => by subst hw; exact kx E ce q9 H1 locs1 hB.1 (hap.keep hPK hk1) (by rw [← ht]; exact hB.2.1) hS1 h1 h2 h3) (fun r u t H1 locs1 ht hvm hw hB hz1 hk1 hS1 => kk r u H1 locs1 hw (hap.keep hPK hk1) (by rw [← ht]; exact hB.1) hS1)
theorem g_iretH {post : Int32 → Mm × (Nat → Int64) → Prop} {qo : Nat} {v : Int32} (u : Mm) (o' : Nat → Int64) (hx : p.tables.exec = Jvm.exec) (hb : c.code = cc) (hr : meth.sig.returnType = some .int) (hlocks : meth.locks = false) (hP : va_P D vwCl (lX cs ad u qo o') H) (hS : va_S A s.heap H locs) (hpost : post v (u, o')) (hdg : decode cc pc = .ok (.ireturn, 1)) :
    W p l e R s m args below meth c H locs cells slots (MQ below (va_Qi post (fun u t => va_P D vwCl (lX cs ad u.1 qo u.2) t.heap) A) args s cells slots A) (F0 m pc ls [.int v]) :=
  W.zret hx hb hr rfl (fun t ht hW => ⟨⟨v, (u, o'), rfl, hpost, by show va_P D vwCl (lX cs ad u qo o') t.heap; rw [ht]; exact hP⟩, hS.F ht⟩) hS.2.2 hdg hlocks
end HROW

set_option maxHeartbeats 4000000 in
set_option maxRecDepth 100000 in
theorem c_L_lay (l : Launch) (hst : l.stackTraces = false) (D : va_G) (cs : Nat → ClassId) (ad : Nat → Nat) (I : Mm) (qo : Nat) (o : Nat → Int64) (sz : Nat) (a : Int32) (b : Int32) (c0 : Int32) (N : Nat) (hIV : IV I 1 N) (hR : RX 1 I) (hR2 : RX 26 I) : MetH l yL_lay wsL_lay ({ frames := 8, cells := 2, slots := 12, locals := 128 }) cs D ad I qo o sz [.ref (ad 0), .int a, .int b, .int c0, .ref qo] (HP (thZ_lay I 1 N a b c0) (mZ_lay I 1 N a b c0) (fun x => x = I (1 + 1 + 1) (pl a b))) 2 12 := by
  refine h_met (cc := cL_lay) (maxL := 6) (ret := (some .int)) (hh := [(0, 12, 15, 13), (0, 12, 19, 15), (0, 12, 23, 17)]) (by decide) rfl (Nat.le_of_ble_eq_true rfl) ?_
  intro pg e s m args below meth c ls hx hb hr hml hts hown hlocks hsz hP hD hK hN hS hA hl hX htab
  have hown : s.vm.findClass RL = some m.cls := hown
  have hl : lv_has ls 6 [(0, .ref (ad 0)), (1, .int a), (2, .int b), (3, .int c0), (4, .ref qo)] := hl
  have hN8 := hIV.1.2.1
  have hw := hIV.1
  refine lv_aload hx hb dL_lay_0 (lv_at hl 4 rfl) ?_
  refine lv_iconst (v := nI 0) hx hb dL_lay_2 (by decide) ?_
  refine lv_aload_n hx hb dL_lay_3 rfl (lv_at hl 0 rfl) ?_
  refine lv_iload_n hx hb dL_lay_4 rfl (lv_at hl 1 rfl) ?_
  refine lv_iload_n hx hb dL_lay_5 rfl (lv_at hl 2 rfl) ?_
  refine lv_iload_n hx hb dL_lay_6 rfl (lv_at hl 3 rfl) ?_
  have hPC := P_left hP
  have hPO := P_right hP
  have hap := Ap.of hD
  have hg := gA_of_A (K := kC) (cs := cs) (ad := ad) (I := I) (Z := [(qo, lgE cs o)]) (sz := s.heap.size)
  rw [← hsz] at hX hD hS hA ⊢
  refine g_xcalliK hPO hap hS (fun q h => hg q h) (vx_runV (As := [.int a, .int b, .int c0]) (rest := [.int (nI 0), .ref qo]) ⟨hx, hb, hml, hown, hts⟩ (c_X5_lay l hst D cs ad I s.heap.size 0 rfl a b c0 N hw) (cwV 3 hts gL_lay_X5_lay rfl rfl rfl (by decide +kernel) ⟨Nat.le_of_ble_eq_true rfl, Nat.le_of_ble_eq_true rfl⟩) (g_xpreV hPC (gA_self (D_left hD)) hK hN (hX.narrow (fun q h => hg q h)) va_S.rf rfl (k := 0) rfl (by decide) rfl rfl rfl rfl) rfl rfl hl.1 rfl (lv_room (Nat.le_of_ble_eq_true rfl)) dL_lay_7 ⟨Nat.le_of_ble_eq_true rfl, Nat.le_of_ble_eq_true rfl⟩) (fun E ce q9 H locs hth hPO hPC hS hce hcv hcl => ?_) (fun r u H locs hw9 hPO hPC hS => ?_)
  · rcases hth with ⟨h1, rfl⟩ | ⟨h1, rfl⟩ | ⟨h1, rfl⟩
    · have htz := ((e_lay (J := I)).symm.trans h1)
      have hz := ((e_lay (J := I)).symm.trans h1)
      refine vx_catch (name := "java/lang/IndexOutOfBoundsException") hown [] ⟨0, 12, 15, 13⟩ [(⟨0, 12, 19, 15⟩ : ExceptionTableEntry), (⟨0, 12, 23, 17⟩ : ExceptionTableEntry)] htab (fun _ h => absurd h List.not_mem_nil) (by decide) (by decide) (hts _ (List.mem_of_getElem? (i := 1) rfl)) (nwu27 hN) hce hcv hcl ?_
      refine lv_astore (lv' := [(5, .ref q9), (0, .ref (ad 0)), (1, .int a), (2, .int b), (3, .int c0), (4, .ref qo)]) hx hb dL_lay_15 hl (by decide) rfl (fun ls hl => ?_)
      refine lv_iconst (v := nI 1) hx hb dL_lay_17 (by decide) ?_
      exact g_iretH I o hx hb hr hlocks (hPC.app hPO) hS ⟨by rw [htz], FX.rfe (by simp only [mZ_lay]; rw [htz, if_neg (by decide)]) hR hR2, fun y => absurd (htz.symm.trans y) (by decide)⟩ dL_lay_18
    · have htz := ((e_lay (J := I)).symm.trans h1)
      have hz := ((e_lay (J := I)).symm.trans h1)
      refine vx_catch (name := "java/lang/IllegalArgumentException") hown [(⟨0, 12, 15, 13⟩ : ExceptionTableEntry)] ⟨0, 12, 19, 15⟩ [(⟨0, 12, 23, 17⟩ : ExceptionTableEntry)] htab (List.forall_mem_cons.mpr ⟨Or.inr ⟨by decide, _, (hts _ (List.mem_of_getElem? (i := 1) rfl)), hX.2.2.2 _ (List.mem_of_getElem? (i := 0) rfl)⟩, (fun _ h => absurd h List.not_mem_nil)⟩) (by decide) (by decide) (hts _ (List.mem_of_getElem? (i := 2) rfl)) (nwu34 hN) hce hcv hcl ?_
      refine lv_astore (lv' := [(5, .ref q9), (0, .ref (ad 0)), (1, .int a), (2, .int b), (3, .int c0), (4, .ref qo)]) hx hb dL_lay_19 hl (by decide) rfl (fun ls hl => ?_)
      refine lv_iconst (v := nI 2) hx hb dL_lay_21 (by decide) ?_
      exact g_iretH I o hx hb hr hlocks (hPC.app hPO) hS ⟨by rw [htz], FX.rfe (by simp only [mZ_lay]; rw [htz, if_neg (by decide)]) hR hR2, fun y => absurd (htz.symm.trans y) (by decide)⟩ dL_lay_22
    · have htz := ((e_lay (J := I)).symm.trans h1)
      have hz := ((e_lay (J := I)).symm.trans h1)
      refine vx_catch (name := "java/lang/IllegalStateException") hown [(⟨0, 12, 15, 13⟩ : ExceptionTableEntry), (⟨0, 12, 19, 15⟩ : ExceptionTableEntry)] ⟨0, 12, 23, 17⟩ [] htab (List.forall_mem_cons.mpr ⟨Or.inr ⟨by decide, _, (hts _ (List.mem_of_getElem? (i := 1) rfl)), hX.2.2.2 _ (List.mem_of_getElem? (i := 1) rfl)⟩, (List.forall_mem_cons.mpr ⟨Or.inr ⟨by decide, _, (hts _ (List.mem_of_getElem? (i := 2) rfl)), hX.2.2.2 _ (List.mem_of_getElem? (i := 2) rfl)⟩, (fun _ h => absurd h List.not_mem_nil)⟩)⟩) (by decide) (by decide) (hts _ (List.mem_of_getElem? (i := 3) rfl)) (nwu35 hN) hce hcv hcl ?_
      refine lv_astore (lv' := [(5, .ref q9), (0, .ref (ad 0)), (1, .int a), (2, .int b), (3, .int c0), (4, .ref qo)]) hx hb dL_lay_23 hl (by decide) rfl (fun ls hl => ?_)
      refine lv_iconst (v := nI 3) hx hb dL_lay_25 (by decide) ?_
      exact g_iretH I o hx hb hr hlocks (hPC.app hPO) hS ⟨by rw [htz], FX.rfe (by simp only [mZ_lay]; rw [htz, if_neg (by decide)]) hR hR2, fun y => absurd (htz.symm.trans y) (by decide)⟩ dL_lay_26
  · obtain ⟨hth, hres⟩ := hw9
    have htz := (e_lay (J := I)).symm.trans hth
    refine lv_i2l (v := r.toInt64) hx hb dL_lay_10 rfl ?_
    refine va_last hx hb hK (hPC.app hPO) (lX_D (J := u) (o' := o) hD) hS (gw kC cs ad u).length 3 (app_rt (k := 0) rfl) rfl (vp_in_nI (by decide) (by decide)) dL_lay_11 (fun H locs hP hD hS => ?_)
    rw [app_set0] at hP
    refine lv_goto (tgt := 27) hx hb dL_lay_12 (by decide) ?_
    refine lv_iconst (v := nI 0) hx hb dL_lay_27 (by decide) ?_
    exact g_iretH u _ hx hb hr hlocks hP hS ⟨by rw [htz], (by rw [hres.2]; exact (k_lay hR hR2 hth).2), fun _ => ⟨r, (hres.1.trans (k_lay hR hR2 hth).1), rfl⟩⟩ dL_lay_28
set_option maxHeartbeats 4000000 in
set_option maxRecDepth 100000 in
theorem c_L_cell (l : Launch) (hst : l.stackTraces = false) (D : va_G) (cs : Nat → ClassId) (ad : Nat → Nat) (I : Mm) (qo : Nat) (o : Nat → Int64) (sz : Nat) (a : Int32) (b : Int32) (c0 : Int32) (N : Nat) (hIV : IV I 1 N) (hR : RX 1 I) (hR2 : RX 26 I) : MetH l yL_cell wsL_cell ({ frames := 8, cells := 2, slots := 12, locals := 127 }) cs D ad I qo o sz [.ref (ad 0), .int a, .int b, .int c0, .ref qo] (HP (thZ_cell a b c0) I (fun x => x = cellF I 1 N (pl a b) c0)) 2 12 := by
  refine h_met (cc := cL_cell) (maxL := 6) (ret := (some .int)) (hh := [(0, 12, 15, 13)]) (by decide) rfl (Nat.le_of_ble_eq_true rfl) ?_
  intro pg e s m args below meth c ls hx hb hr hml hts hown hlocks hsz hP hD hK hN hS hA hl hX htab
  have hown : s.vm.findClass RL = some m.cls := hown
  have hl : lv_has ls 6 [(0, .ref (ad 0)), (1, .int a), (2, .int b), (3, .int c0), (4, .ref qo)] := hl
  have hN8 := hIV.1.2.1
  have hw := hIV.1
  refine lv_aload hx hb dL_cell_0 (lv_at hl 4 rfl) ?_
  refine lv_iconst (v := nI 0) hx hb dL_cell_2 (by decide) ?_
  refine lv_aload_n hx hb dL_cell_3 rfl (lv_at hl 0 rfl) ?_
  refine lv_iload_n hx hb dL_cell_4 rfl (lv_at hl 1 rfl) ?_
  refine lv_iload_n hx hb dL_cell_5 rfl (lv_at hl 2 rfl) ?_
  refine lv_iload_n hx hb dL_cell_6 rfl (lv_at hl 3 rfl) ?_
  have hPC := P_left hP
  have hPO := P_right hP
  have hap := Ap.of hD
  have hg := gA_of_A (K := kC) (cs := cs) (ad := ad) (I := I) (Z := [(qo, lgE cs o)]) (sz := s.heap.size)
  rw [← hsz] at hX hD hS hA ⊢
  refine g_xcalliK hPO hap hS (fun q h => hg q h) (vx_runV (As := [.int a, .int b, .int c0]) (rest := [.int (nI 0), .ref qo]) ⟨hx, hb, hml, hown, hts⟩ (c_X5_cell l hst D cs ad I s.heap.size 0 rfl a b c0 N hw hR hR2) (cwV 3 hts gL_cell_X5_cell rfl rfl rfl (by decide +kernel) ⟨Nat.le_of_ble_eq_true rfl, Nat.le_of_ble_eq_true rfl⟩) (g_xpreV hPC (gA_self (D_left hD)) hK hN (hX.narrow (fun q h => hg q h)) va_S.rf rfl (k := 0) rfl (by decide) rfl rfl rfl rfl) rfl rfl hl.1 rfl (lv_room (Nat.le_of_ble_eq_true rfl)) dL_cell_7 ⟨Nat.le_of_ble_eq_true rfl, Nat.le_of_ble_eq_true rfl⟩) (fun E ce q9 H locs hth hPO hPC hS hce hcv hcl => ?_) (fun r u H locs hw9 hPO hPC hS => ?_)
  · rcases hth with ⟨h1, rfl⟩ | ⟨h1, rfl⟩ | ⟨h1, rfl⟩
    · have htz := ((e_cell (J := I) (N := N)).symm.trans h1)
      have hz := ((e_cell (J := I) (N := N)).symm.trans h1)
      refine vx_catch (name := "java/lang/IndexOutOfBoundsException") hown [] ⟨0, 12, 15, 13⟩ [] htab (fun _ h => absurd h List.not_mem_nil) (by decide) (by decide) (hts _ (List.mem_of_getElem? (i := 1) rfl)) (nwu27 hN) hce hcv hcl ?_
      refine lv_astore (lv' := [(5, .ref q9), (0, .ref (ad 0)), (1, .int a), (2, .int b), (3, .int c0), (4, .ref qo)]) hx hb dL_cell_15 hl (by decide) rfl (fun ls hl => ?_)
      refine lv_iconst (v := nI 1) hx hb dL_cell_17 (by decide) ?_
      exact g_iretH I o hx hb hr hlocks (hPC.app hPO) hS ⟨by rw [htz], FX.rf hR hR2, fun y => absurd (htz.symm.trans y) (by decide)⟩ dL_cell_18
    · exact absurd h1 (fun h1 => by rcases (r_cell (a := a) (b := b) (c0 := c0)) with y | y <;> (rw [← (e_cell (J := I) (N := N)), h1] at y; exact absurd y (by decide)))
    · exact absurd h1 (fun h1 => by rcases (r_cell (a := a) (b := b) (c0 := c0)) with y | y <;> (rw [← (e_cell (J := I) (N := N)), h1] at y; exact absurd y (by decide)))
  · obtain ⟨hth, hres⟩ := hw9
    have htz := (e_cell (J := I) (N := N)).symm.trans hth
    refine lv_i2l (v := r.toInt64) hx hb dL_cell_10 rfl ?_
    refine va_last hx hb hK (hPC.app hPO) (lX_D (J := u) (o' := o) hD) hS (gw kC cs ad u).length 3 (app_rt (k := 0) rfl) rfl (vp_in_nI (by decide) (by decide)) dL_cell_11 (fun H locs hP hD hS => ?_)
    rw [app_set0] at hP
    refine lv_goto (tgt := 19) hx hb dL_cell_12 (by decide) ?_
    refine lv_iconst (v := nI 0) hx hb dL_cell_19 (by decide) ?_
    exact g_iretH u _ hx hb hr hlocks hP hS ⟨by rw [htz], hres.1, fun _ => ⟨r, hres.2, rfl⟩⟩ dL_cell_20
set_option maxHeartbeats 4000000 in
set_option maxRecDepth 100000 in
theorem c_L_come (l : Launch) (hst : l.stackTraces = false) (D : va_G) (cs : Nat → ClassId) (ad : Nat → Nat) (I : Mm) (qo : Nat) (o : Nat → Int64) (sz : Nat) (a : Int32) (b : Int32) (c0 : Int32) (d : Int32) (N : Nat) (hIV : IV I 1 N) (hR : RX 1 I) (hR2 : RX 26 I) : MetH l yL_come wsL_come ({ frames := 8, cells := 2, slots := 12, locals := 128 }) cs D ad I qo o sz [.ref (ad 0), .int a, .int b, .int c0, .int d, .ref qo] (HP (thZ_come I 1 N a b c0 d) (mZ_come I 1 N a b c0 d) (fun x => x = nI N)) 2 12 := by
  refine h_met (cc := cL_come) (maxL := 7) (ret := (some .int)) (hh := [(0, 14, 17, 13), (0, 14, 21, 15), (0, 14, 25, 17)]) (by decide) rfl (Nat.le_of_ble_eq_true rfl) ?_
  intro pg e s m args below meth c ls hx hb hr hml hts hown hlocks hsz hP hD hK hN hS hA hl hX htab
  have hown : s.vm.findClass RL = some m.cls := hown
  have hl : lv_has ls 7 [(0, .ref (ad 0)), (1, .int a), (2, .int b), (3, .int c0), (4, .int d), (5, .ref qo)] := hl
  have hN8 := hIV.1.2.1
  have hw := hIV.1
  refine lv_aload hx hb dL_come_0 (lv_at hl 5 rfl) ?_
  refine lv_iconst (v := nI 0) hx hb dL_come_2 (by decide) ?_
  refine lv_aload_n hx hb dL_come_3 rfl (lv_at hl 0 rfl) ?_
  refine lv_iload_n hx hb dL_come_4 rfl (lv_at hl 1 rfl) ?_
  refine lv_iload_n hx hb dL_come_5 rfl (lv_at hl 2 rfl) ?_
  refine lv_iload_n hx hb dL_come_6 rfl (lv_at hl 3 rfl) ?_
  refine lv_iload hx hb dL_come_7 (lv_at hl 4 rfl) ?_
  have hPC := P_left hP
  have hPO := P_right hP
  have hap := Ap.of hD
  have hg := gA_of_A (K := kC) (cs := cs) (ad := ad) (I := I) (Z := [(qo, lgE cs o)]) (sz := s.heap.size)
  rw [← hsz] at hX hD hS hA ⊢
  refine g_xcalliK hPO hap hS (fun q h => hg q h) (vx_runV (As := [.int a, .int b, .int c0, .int d]) (rest := [.int (nI 0), .ref qo]) ⟨hx, hb, hml, hown, hts⟩ (c_X5_come l hst D cs ad I s.heap.size 0 rfl a b c0 d N hw) (cwV 4 hts gL_come_X5_come rfl rfl rfl (by decide +kernel) ⟨Nat.le_of_ble_eq_true rfl, Nat.le_of_ble_eq_true rfl⟩) (g_xpreV hPC (gA_self (D_left hD)) hK hN (hX.narrow (fun q h => hg q h)) va_S.rf rfl (k := 0) rfl (by decide) rfl rfl rfl rfl) rfl rfl hl.1 rfl (lv_room (Nat.le_of_ble_eq_true rfl)) dL_come_9 ⟨Nat.le_of_ble_eq_true rfl, Nat.le_of_ble_eq_true rfl⟩) (fun E ce q9 H locs hth hPO hPC hS hce hcv hcl => ?_) (fun r u H locs hw9 hPO hPC hS => ?_)
  · rcases hth with ⟨h1, rfl⟩ | ⟨h1, rfl⟩ | ⟨h1, rfl⟩
    · have htz := ((e_come (J := I)).symm.trans h1)
      have hz := ((e_come (J := I)).symm.trans h1)
      refine vx_catch (name := "java/lang/IndexOutOfBoundsException") hown [] ⟨0, 14, 17, 13⟩ [(⟨0, 14, 21, 15⟩ : ExceptionTableEntry), (⟨0, 14, 25, 17⟩ : ExceptionTableEntry)] htab (fun _ h => absurd h List.not_mem_nil) (by decide) (by decide) (hts _ (List.mem_of_getElem? (i := 1) rfl)) (nwu27 hN) hce hcv hcl ?_
      refine lv_astore (lv' := [(6, .ref q9), (0, .ref (ad 0)), (1, .int a), (2, .int b), (3, .int c0), (4, .int d), (5, .ref qo)]) hx hb dL_come_17 hl (by decide) rfl (fun ls hl => ?_)
      refine lv_iconst (v := nI 1) hx hb dL_come_19 (by decide) ?_
      exact g_iretH I o hx hb hr hlocks (hPC.app hPO) hS ⟨by rw [htz], FX.rfe (by simp only [mZ_come]; rw [htz, if_neg (by decide)]) hR hR2, fun y => absurd (htz.symm.trans y) (by decide)⟩ dL_come_20
    · have htz := ((e_come (J := I)).symm.trans h1)
      have hz := ((e_come (J := I)).symm.trans h1)
      refine vx_catch (name := "java/lang/IllegalArgumentException") hown [(⟨0, 14, 17, 13⟩ : ExceptionTableEntry)] ⟨0, 14, 21, 15⟩ [(⟨0, 14, 25, 17⟩ : ExceptionTableEntry)] htab (List.forall_mem_cons.mpr ⟨Or.inr ⟨by decide, _, (hts _ (List.mem_of_getElem? (i := 1) rfl)), hX.2.2.2 _ (List.mem_of_getElem? (i := 0) rfl)⟩, (fun _ h => absurd h List.not_mem_nil)⟩) (by decide) (by decide) (hts _ (List.mem_of_getElem? (i := 2) rfl)) (nwu34 hN) hce hcv hcl ?_
      refine lv_astore (lv' := [(6, .ref q9), (0, .ref (ad 0)), (1, .int a), (2, .int b), (3, .int c0), (4, .int d), (5, .ref qo)]) hx hb dL_come_21 hl (by decide) rfl (fun ls hl => ?_)
      refine lv_iconst (v := nI 2) hx hb dL_come_23 (by decide) ?_
      exact g_iretH I o hx hb hr hlocks (hPC.app hPO) hS ⟨by rw [htz], FX.rfe (by simp only [mZ_come]; rw [htz, if_neg (by decide)]) hR hR2, fun y => absurd (htz.symm.trans y) (by decide)⟩ dL_come_24
    · have htz := ((e_come (J := I)).symm.trans h1)
      have hz := ((e_come (J := I)).symm.trans h1)
      refine vx_catch (name := "java/lang/IllegalStateException") hown [(⟨0, 14, 17, 13⟩ : ExceptionTableEntry), (⟨0, 14, 21, 15⟩ : ExceptionTableEntry)] ⟨0, 14, 25, 17⟩ [] htab (List.forall_mem_cons.mpr ⟨Or.inr ⟨by decide, _, (hts _ (List.mem_of_getElem? (i := 1) rfl)), hX.2.2.2 _ (List.mem_of_getElem? (i := 1) rfl)⟩, (List.forall_mem_cons.mpr ⟨Or.inr ⟨by decide, _, (hts _ (List.mem_of_getElem? (i := 2) rfl)), hX.2.2.2 _ (List.mem_of_getElem? (i := 2) rfl)⟩, (fun _ h => absurd h List.not_mem_nil)⟩)⟩) (by decide) (by decide) (hts _ (List.mem_of_getElem? (i := 3) rfl)) (nwu35 hN) hce hcv hcl ?_
      refine lv_astore (lv' := [(6, .ref q9), (0, .ref (ad 0)), (1, .int a), (2, .int b), (3, .int c0), (4, .int d), (5, .ref qo)]) hx hb dL_come_25 hl (by decide) rfl (fun ls hl => ?_)
      refine lv_iconst (v := nI 3) hx hb dL_come_27 (by decide) ?_
      exact g_iretH I o hx hb hr hlocks (hPC.app hPO) hS ⟨by rw [htz], FX.rfe (by simp only [mZ_come]; rw [htz, if_neg (by decide)]) hR hR2, fun y => absurd (htz.symm.trans y) (by decide)⟩ dL_come_28
  · obtain ⟨hth, hres⟩ := hw9
    have htz := (e_come (J := I)).symm.trans hth
    refine lv_i2l (v := r.toInt64) hx hb dL_come_12 rfl ?_
    refine va_last hx hb hK (hPC.app hPO) (lX_D (J := u) (o' := o) hD) hS (gw kC cs ad u).length 3 (app_rt (k := 0) rfl) rfl (vp_in_nI (by decide) (by decide)) dL_come_13 (fun H locs hP hD hS => ?_)
    rw [app_set0] at hP
    refine lv_goto (tgt := 29) hx hb dL_come_14 (by decide) ?_
    refine lv_iconst (v := nI 0) hx hb dL_come_29 (by decide) ?_
    exact g_iretH u _ hx hb hr hlocks hP hS ⟨by rw [htz], (by rw [hres.2]; exact (k_come hN8 hR hR2 hth).2), fun _ => ⟨r, (hres.1.trans (k_come hN8 hR hR2 hth).1), rfl⟩⟩ dL_come_30
set_option maxHeartbeats 4000000 in
set_option maxRecDepth 100000 in
theorem c_L_order (l : Launch) (hst : l.stackTraces = false) (D : va_G) (cs : Nat → ClassId) (ad : Nat → Nat) (I : Mm) (qo : Nat) (o : Nat → Int64) (sz : Nat) (a : Int32) (b : Int32) (c0 : Int32) (N : Nat) (hIV : IV I 1 N) (hR : RX 1 I) (hR2 : RX 26 I) : MetH l yL_order wsL_order ({ frames := 8, cells := 2, slots := 12, locals := 128 }) cs D ad I qo o sz [.ref (ad 0), .int a, .int b, .int c0, .ref qo] (HP (thZ_order I 1 N a b c0) (mZ_order I 1 N a b c0) (fun x => x = nI ((I (1 + 8 + (1 + a.toNatClampNeg)) 7).toNatClampNeg + c0.toNatClampNeg))) 2 12 := by
  refine h_met (cc := cL_order) (maxL := 6) (ret := (some .int)) (hh := [(0, 12, 15, 13), (0, 12, 19, 15), (0, 12, 23, 17)]) (by decide) rfl (Nat.le_of_ble_eq_true rfl) ?_
  intro pg e s m args below meth c ls hx hb hr hml hts hown hlocks hsz hP hD hK hN hS hA hl hX htab
  have hown : s.vm.findClass RL = some m.cls := hown
  have hl : lv_has ls 6 [(0, .ref (ad 0)), (1, .int a), (2, .int b), (3, .int c0), (4, .ref qo)] := hl
  have hN8 := hIV.1.2.1
  have hw := hIV.1
  refine lv_aload hx hb dL_order_0 (lv_at hl 4 rfl) ?_
  refine lv_iconst (v := nI 0) hx hb dL_order_2 (by decide) ?_
  refine lv_aload_n hx hb dL_order_3 rfl (lv_at hl 0 rfl) ?_
  refine lv_iload_n hx hb dL_order_4 rfl (lv_at hl 1 rfl) ?_
  refine lv_iload_n hx hb dL_order_5 rfl (lv_at hl 2 rfl) ?_
  refine lv_iload_n hx hb dL_order_6 rfl (lv_at hl 3 rfl) ?_
  have hPC := P_left hP
  have hPO := P_right hP
  have hap := Ap.of hD
  have hg := gA_of_A (K := kC) (cs := cs) (ad := ad) (I := I) (Z := [(qo, lgE cs o)]) (sz := s.heap.size)
  rw [← hsz] at hX hD hS hA ⊢
  refine g_xcalliK hPO hap hS (fun q h => hg q h) (vx_runV (As := [.int a, .int b, .int c0]) (rest := [.int (nI 0), .ref qo]) ⟨hx, hb, hml, hown, hts⟩ (c_X5_order l hst D cs ad I s.heap.size 0 rfl a b c0 N hw) (cwV 3 hts gL_order_X5_order rfl rfl rfl (by decide +kernel) ⟨Nat.le_of_ble_eq_true rfl, Nat.le_of_ble_eq_true rfl⟩) (g_xpreV hPC (gA_self (D_left hD)) hK hN (hX.narrow (fun q h => hg q h)) va_S.rf rfl (k := 0) rfl (by decide) rfl rfl rfl rfl) rfl rfl hl.1 rfl (lv_room (Nat.le_of_ble_eq_true rfl)) dL_order_7 ⟨Nat.le_of_ble_eq_true rfl, Nat.le_of_ble_eq_true rfl⟩) (fun E ce q9 H locs hth hPO hPC hS hce hcv hcl => ?_) (fun r u H locs hw9 hPO hPC hS => ?_)
  · rcases hth with ⟨h1, rfl⟩ | ⟨h1, rfl⟩ | ⟨h1, rfl⟩
    · have htz := ((e_order (J := I)).symm.trans h1)
      have hz := ((e_order (J := I)).symm.trans h1)
      refine vx_catch (name := "java/lang/IndexOutOfBoundsException") hown [] ⟨0, 12, 15, 13⟩ [(⟨0, 12, 19, 15⟩ : ExceptionTableEntry), (⟨0, 12, 23, 17⟩ : ExceptionTableEntry)] htab (fun _ h => absurd h List.not_mem_nil) (by decide) (by decide) (hts _ (List.mem_of_getElem? (i := 1) rfl)) (nwu27 hN) hce hcv hcl ?_
      refine lv_astore (lv' := [(5, .ref q9), (0, .ref (ad 0)), (1, .int a), (2, .int b), (3, .int c0), (4, .ref qo)]) hx hb dL_order_15 hl (by decide) rfl (fun ls hl => ?_)
      refine lv_iconst (v := nI 1) hx hb dL_order_17 (by decide) ?_
      exact g_iretH I o hx hb hr hlocks (hPC.app hPO) hS ⟨by rw [htz], FX.rfe (by simp only [mZ_order]; rw [htz, if_neg (by decide)]) hR hR2, fun y => absurd (htz.symm.trans y) (by decide)⟩ dL_order_18
    · have htz := ((e_order (J := I)).symm.trans h1)
      have hz := ((e_order (J := I)).symm.trans h1)
      refine vx_catch (name := "java/lang/IllegalArgumentException") hown [(⟨0, 12, 15, 13⟩ : ExceptionTableEntry)] ⟨0, 12, 19, 15⟩ [(⟨0, 12, 23, 17⟩ : ExceptionTableEntry)] htab (List.forall_mem_cons.mpr ⟨Or.inr ⟨by decide, _, (hts _ (List.mem_of_getElem? (i := 1) rfl)), hX.2.2.2 _ (List.mem_of_getElem? (i := 0) rfl)⟩, (fun _ h => absurd h List.not_mem_nil)⟩) (by decide) (by decide) (hts _ (List.mem_of_getElem? (i := 2) rfl)) (nwu34 hN) hce hcv hcl ?_
      refine lv_astore (lv' := [(5, .ref q9), (0, .ref (ad 0)), (1, .int a), (2, .int b), (3, .int c0), (4, .ref qo)]) hx hb dL_order_19 hl (by decide) rfl (fun ls hl => ?_)
      refine lv_iconst (v := nI 2) hx hb dL_order_21 (by decide) ?_
      exact g_iretH I o hx hb hr hlocks (hPC.app hPO) hS ⟨by rw [htz], FX.rfe (by simp only [mZ_order]; rw [htz, if_neg (by decide)]) hR hR2, fun y => absurd (htz.symm.trans y) (by decide)⟩ dL_order_22
    · have htz := ((e_order (J := I)).symm.trans h1)
      have hz := ((e_order (J := I)).symm.trans h1)
      refine vx_catch (name := "java/lang/IllegalStateException") hown [(⟨0, 12, 15, 13⟩ : ExceptionTableEntry), (⟨0, 12, 19, 15⟩ : ExceptionTableEntry)] ⟨0, 12, 23, 17⟩ [] htab (List.forall_mem_cons.mpr ⟨Or.inr ⟨by decide, _, (hts _ (List.mem_of_getElem? (i := 1) rfl)), hX.2.2.2 _ (List.mem_of_getElem? (i := 1) rfl)⟩, (List.forall_mem_cons.mpr ⟨Or.inr ⟨by decide, _, (hts _ (List.mem_of_getElem? (i := 2) rfl)), hX.2.2.2 _ (List.mem_of_getElem? (i := 2) rfl)⟩, (fun _ h => absurd h List.not_mem_nil)⟩)⟩) (by decide) (by decide) (hts _ (List.mem_of_getElem? (i := 3) rfl)) (nwu35 hN) hce hcv hcl ?_
      refine lv_astore (lv' := [(5, .ref q9), (0, .ref (ad 0)), (1, .int a), (2, .int b), (3, .int c0), (4, .ref qo)]) hx hb dL_order_23 hl (by decide) rfl (fun ls hl => ?_)
      refine lv_iconst (v := nI 3) hx hb dL_order_25 (by decide) ?_
      exact g_iretH I o hx hb hr hlocks (hPC.app hPO) hS ⟨by rw [htz], FX.rfe (by simp only [mZ_order]; rw [htz, if_neg (by decide)]) hR hR2, fun y => absurd (htz.symm.trans y) (by decide)⟩ dL_order_26
  · obtain ⟨hth, hres⟩ := hw9
    have htz := (e_order (J := I)).symm.trans hth
    refine lv_i2l (v := r.toInt64) hx hb dL_order_10 rfl ?_
    refine va_last hx hb hK (hPC.app hPO) (lX_D (J := u) (o' := o) hD) hS (gw kC cs ad u).length 3 (app_rt (k := 0) rfl) rfl (vp_in_nI (by decide) (by decide)) dL_order_11 (fun H locs hP hD hS => ?_)
    rw [app_set0] at hP
    refine lv_goto (tgt := 27) hx hb dL_order_12 (by decide) ?_
    refine lv_iconst (v := nI 0) hx hb dL_order_27 (by decide) ?_
    exact g_iretH u _ hx hb hr hlocks hP hS ⟨by rw [htz], (by rw [hres.1]; exact k_order hN8 hR hR2 hth), fun _ => ⟨r, hres.2, rfl⟩⟩ dL_order_28
set_option maxHeartbeats 4000000 in
set_option maxRecDepth 100000 in
theorem c_L_call (l : Launch) (hst : l.stackTraces = false) (D : va_G) (cs : Nat → ClassId) (ad : Nat → Nat) (I : Mm) (qo : Nat) (o : Nat → Int64) (sz : Nat) (a : Int32) (N : Nat) (hIV : IV I 1 N) (hR : RX 1 I) (hR2 : RX 26 I) : MetH l yL_call wsL_call ({ frames := 8, cells := 1, slots := 6, locals := 127 }) cs D ad I qo o sz [.ref (ad 0), .int a, .ref qo] (HP (th_X5_member 0 a N) (if th_X5_member 0 a N = 0 then wr I (1 + 8 + (1 + a.toNatClampNeg)) 7 (nI 0) else I) (fun x => x = I (1 + 8 + (1 + a.toNatClampNeg)) 7)) 1 6 := by
  refine h_met (cc := cL_call) (maxL := 4) (ret := (some .int)) (hh := [(0, 9, 12, 13)]) (by decide) rfl (Nat.le_of_ble_eq_true rfl) ?_
  intro pg e s m args below meth c ls hx hb hr hml hts hown hlocks hsz hP hD hK hN hS hA hl hX htab
  have hown : s.vm.findClass RL = some m.cls := hown
  have hl : lv_has ls 4 [(0, .ref (ad 0)), (1, .int a), (2, .ref qo)] := hl
  have hN8 := hIV.1.2.1
  have hw := hIV.1
  refine lv_aload_n hx hb dL_call_0 rfl (lv_at hl 2 rfl) ?_
  refine lv_iconst (v := nI 0) hx hb dL_call_1 (by decide) ?_
  refine lv_aload_n hx hb dL_call_2 rfl (lv_at hl 0 rfl) ?_
  refine lv_iload_n hx hb dL_call_3 rfl (lv_at hl 1 rfl) ?_
  have hPC := P_left hP
  have hPO := P_right hP
  have hap := Ap.of hD
  have hg := gA_of_A (K := kC) (cs := cs) (ad := ad) (I := I) (Z := [(qo, lgE cs o)]) (sz := s.heap.size)
  rw [← hsz] at hX hD hS hA ⊢
  refine g_xcalliK hPO hap hS (fun q h => hg q h) (vx_runV (As := [.int a]) (rest := [.int (nI 0), .ref qo]) ⟨hx, hb, hml, hown, hts⟩ (c_X5_call l hst D cs ad I s.heap.size 0 rfl a N hw) (cwV 1 hts gL_call_X5_call rfl rfl rfl (by decide +kernel) ⟨Nat.le_of_ble_eq_true rfl, Nat.le_of_ble_eq_true rfl⟩) (g_xpreV hPC (gA_self (D_left hD)) hK hN (hX.narrow (fun q h => hg q h)) va_S.rf rfl (k := 0) rfl (by decide) rfl rfl rfl rfl) rfl rfl hl.1 rfl (lv_room (Nat.le_of_ble_eq_true rfl)) dL_call_4 ⟨Nat.le_of_ble_eq_true rfl, Nat.le_of_ble_eq_true rfl⟩) (fun E ce q9 H locs hth hPO hPC hS hce hcv hcl => ?_) (fun r u H locs hw9 hPO hPC hS => ?_)
  · rcases hth with ⟨h1, rfl⟩ | ⟨h1, rfl⟩ | ⟨h1, rfl⟩
    · have htz := ((e_call (J := I)).symm.trans h1)
      have hz := ((e_call (J := I)).symm.trans h1)
      refine vx_catch (name := "java/lang/IndexOutOfBoundsException") hown [] ⟨0, 9, 12, 13⟩ [] htab (fun _ h => absurd h List.not_mem_nil) (by decide) (by decide) (hts _ (List.mem_of_getElem? (i := 1) rfl)) (nwu27 hN) hce hcv hcl ?_
      refine lv_astore_n (lv' := [(3, .ref q9), (0, .ref (ad 0)), (1, .int a), (2, .ref qo)]) hx hb dL_call_12 rfl hl (by decide) rfl (fun ls hl => ?_)
      refine lv_iconst (v := nI 1) hx hb dL_call_13 (by decide) ?_
      exact g_iretH I o hx hb hr hlocks (hPC.app hPO) hS ⟨by rw [htz], FX.rfe (by rw [htz, if_neg (by decide)]) hR hR2, fun y => absurd (htz.symm.trans y) (by decide)⟩ dL_call_14
    · exact absurd h1 (fun h1 => by rcases (lc_mem (a := a) (N := N) 0) with y | y <;> (rw [← (e_call (J := I)), h1] at y; exact absurd y (by decide)))
    · exact absurd h1 (fun h1 => by rcases (lc_mem (a := a) (N := N) 0) with y | y <;> (rw [← (e_call (J := I)), h1] at y; exact absurd y (by decide)))
  · obtain ⟨hth, hres⟩ := hw9
    have htz := (e_call (J := I)).symm.trans hth
    refine lv_i2l (v := r.toInt64) hx hb dL_call_7 rfl ?_
    refine va_last hx hb hK (hPC.app hPO) (lX_D (J := u) (o' := o) hD) hS (gw kC cs ad u).length 3 (app_rt (k := 0) rfl) rfl (vp_in_nI (by decide) (by decide)) dL_call_8 (fun H locs hP hD hS => ?_)
    rw [app_set0] at hP
    refine lv_goto (tgt := 15) hx hb dL_call_9 (by decide) ?_
    refine lv_iconst (v := nI 0) hx hb dL_call_15 (by decide) ?_
    exact g_iretH u _ hx hb hr hlocks hP hS ⟨by rw [htz], (by rw [hres.1]; exact k_call hN8 hR hR2 hth), fun _ => ⟨r, hres.2, rfl⟩⟩ dL_call_16
set_option maxHeartbeats 4000000 in
set_option maxRecDepth 100000 in
theorem c_L_tunneller (l : Launch) (hst : l.stackTraces = false) (D : va_G) (cs : Nat → ClassId) (ad : Nat → Nat) (I : Mm) (qo : Nat) (o : Nat → Int64) (sz : Nat) (a : Int32) (b : Int32) (N : Nat) (hIV : IV I 1 N) (hR : RX 1 I) (hR2 : RX 26 I) : MetH l yL_tunneller wsL_tunneller ({ frames := 8, cells := 2, slots := 12, locals := 127 }) cs D ad I qo o sz [.ref (ad 0), .int a, .int b, .ref qo] (HP (thZ_tun N a b) I (fun x => x = tunF I (1 + 8 + (1 + a.toNatClampNeg)) b)) 2 12 := by
  refine h_met (cc := cL_tunneller) (maxL := 5) (ret := (some .int)) (hh := [(0, 10, 13, 13)]) (by decide) rfl (Nat.le_of_ble_eq_true rfl) ?_
  intro pg e s m args below meth c ls hx hb hr hml hts hown hlocks hsz hP hD hK hN hS hA hl hX htab
  have hown : s.vm.findClass RL = some m.cls := hown
  have hl : lv_has ls 5 [(0, .ref (ad 0)), (1, .int a), (2, .int b), (3, .ref qo)] := hl
  have hN8 := hIV.1.2.1
  have hw := hIV.1
  refine lv_aload_n hx hb dL_tunneller_0 rfl (lv_at hl 3 rfl) ?_
  refine lv_iconst (v := nI 0) hx hb dL_tunneller_1 (by decide) ?_
  refine lv_aload_n hx hb dL_tunneller_2 rfl (lv_at hl 0 rfl) ?_
  refine lv_iload_n hx hb dL_tunneller_3 rfl (lv_at hl 1 rfl) ?_
  refine lv_iload_n hx hb dL_tunneller_4 rfl (lv_at hl 2 rfl) ?_
  have hPC := P_left hP
  have hPO := P_right hP
  have hap := Ap.of hD
  have hg := gA_of_A (K := kC) (cs := cs) (ad := ad) (I := I) (Z := [(qo, lgE cs o)]) (sz := s.heap.size)
  rw [← hsz] at hX hD hS hA ⊢
  refine g_xcalliK hPO hap hS (fun q h => hg q h) (vx_runV (As := [.int a, .int b]) (rest := [.int (nI 0), .ref qo]) ⟨hx, hb, hml, hown, hts⟩ (c_X5_tunneller l hst D cs ad I s.heap.size 0 rfl a b N hw) (cwV 2 hts gL_tunneller_X5_tunneller rfl rfl rfl (by decide +kernel) ⟨Nat.le_of_ble_eq_true rfl, Nat.le_of_ble_eq_true rfl⟩) (g_xpreV hPC (gA_self (D_left hD)) hK hN (hX.narrow (fun q h => hg q h)) va_S.rf rfl (k := 0) rfl (by decide) rfl rfl rfl rfl) rfl rfl hl.1 rfl (lv_room (Nat.le_of_ble_eq_true rfl)) dL_tunneller_5 ⟨Nat.le_of_ble_eq_true rfl, Nat.le_of_ble_eq_true rfl⟩) (fun E ce q9 H locs hth hPO hPC hS hce hcv hcl => ?_) (fun r u H locs hw9 hPO hPC hS => ?_)
  · rcases hth with ⟨h1, rfl⟩ | ⟨h1, rfl⟩ | ⟨h1, rfl⟩
    · have htz := ((e_tunneller (J := I)).symm.trans h1)
      have hz := ((e_tunneller (J := I)).symm.trans h1)
      refine vx_catch (name := "java/lang/IndexOutOfBoundsException") hown [] ⟨0, 10, 13, 13⟩ [] htab (fun _ h => absurd h List.not_mem_nil) (by decide) (by decide) (hts _ (List.mem_of_getElem? (i := 1) rfl)) (nwu27 hN) hce hcv hcl ?_
      refine lv_astore (lv' := [(4, .ref q9), (0, .ref (ad 0)), (1, .int a), (2, .int b), (3, .ref qo)]) hx hb dL_tunneller_13 hl (by decide) rfl (fun ls hl => ?_)
      refine lv_iconst (v := nI 1) hx hb dL_tunneller_15 (by decide) ?_
      exact g_iretH I o hx hb hr hlocks (hPC.app hPO) hS ⟨by rw [htz], FX.rf hR hR2, fun y => absurd (htz.symm.trans y) (by decide)⟩ dL_tunneller_16
    · exact absurd h1 (fun h1 => by rcases (r_tun (a := a) (b := b) (N := N)) with y | y <;> (rw [← (e_tunneller (J := I)), h1] at y; exact absurd y (by decide)))
    · exact absurd h1 (fun h1 => by rcases (r_tun (a := a) (b := b) (N := N)) with y | y <;> (rw [← (e_tunneller (J := I)), h1] at y; exact absurd y (by decide)))
  · obtain ⟨hth, hres⟩ := hw9
    have htz := (e_tunneller (J := I)).symm.trans hth
    refine lv_i2l (v := r.toInt64) hx hb dL_tunneller_8 rfl ?_
    refine va_last hx hb hK (hPC.app hPO) (lX_D (J := u) (o' := o) hD) hS (gw kC cs ad u).length 3 (app_rt (k := 0) rfl) rfl (vp_in_nI (by decide) (by decide)) dL_tunneller_9 (fun H locs hP hD hS => ?_)
    rw [app_set0] at hP
    refine lv_goto (tgt := 17) hx hb dL_tunneller_10 (by decide) ?_
    refine lv_iconst (v := nI 0) hx hb dL_tunneller_17 (by decide) ?_
    exact g_iretH u _ hx hb hr hlocks hP hS ⟨by rw [htz], (FX.rfe hres.1 (by rw [hres.1]; exact hR) (by rw [hres.1]; exact hR2)), fun _ => ⟨r, hres.2, rfl⟩⟩ dL_tunneller_18
set_option maxHeartbeats 4000000 in
set_option maxRecDepth 100000 in
theorem c_L_pass (l : Launch) (hst : l.stackTraces = false) (D : va_G) (cs : Nat → ClassId) (ad : Nat → Nat) (I : Mm) (qo : Nat) (o : Nat → Int64) (sz : Nat) (a : Int32) (N : Nat) (hIV : IV I 1 N) (hR : RX 1 I) (hR2 : RX 26 I) : MetH l yL_pass wsL_pass ({ frames := 8, cells := 1, slots := 6, locals := 161 }) cs D ad I qo o sz [.ref (ad 0), .int a, .ref qo] (HP (thZ_pass a) (mZ_pass I 1 N a) (fun x => x = passR I 1 N a.toNatClampNeg)) 1 6 := by
  refine h_met (cc := cL_pass) (maxL := 4) (ret := (some .int)) (hh := [(0, 9, 12, 15)]) (by decide) rfl (Nat.le_of_ble_eq_true rfl) ?_
  intro pg e s m args below meth c ls hx hb hr hml hts hown hlocks hsz hP hD hK hN hS hA hl hX htab
  have hown : s.vm.findClass RL = some m.cls := hown
  have hl : lv_has ls 4 [(0, .ref (ad 0)), (1, .int a), (2, .ref qo)] := hl
  have hN8 := hIV.1.2.1
  have hw := hIV.1
  refine lv_aload_n hx hb dL_pass_0 rfl (lv_at hl 2 rfl) ?_
  refine lv_iconst (v := nI 0) hx hb dL_pass_1 (by decide) ?_
  refine lv_aload_n hx hb dL_pass_2 rfl (lv_at hl 0 rfl) ?_
  refine lv_iload_n hx hb dL_pass_3 rfl (lv_at hl 1 rfl) ?_
  have hPC := P_left hP
  have hPO := P_right hP
  have hap := Ap.of hD
  have hg := gA_of_A (K := kC) (cs := cs) (ad := ad) (I := I) (Z := [(qo, lgE cs o)]) (sz := s.heap.size)
  rw [← hsz] at hX hD hS hA ⊢
  refine g_xcalliK hPO hap hS (fun q h => hg q h) (vx_runV (As := [.int a]) (rest := [.int (nI 0), .ref qo]) ⟨hx, hb, hml, hown, hts⟩ (c_X5_pass l hst D cs ad I s.heap.size 0 rfl a N hw hR hR2) (cwV 1 hts gL_pass_X5_pass rfl rfl rfl (by decide +kernel) ⟨Nat.le_of_ble_eq_true rfl, Nat.le_of_ble_eq_true rfl⟩) (g_xpreV hPC (gA_self (D_left hD)) hK hN (hX.narrow (fun q h => hg q h)) va_S.rf rfl (k := 0) rfl (by decide) rfl rfl rfl rfl) rfl rfl hl.1 rfl (lv_room (Nat.le_of_ble_eq_true rfl)) dL_pass_4 ⟨Nat.le_of_ble_eq_true rfl, Nat.le_of_ble_eq_true rfl⟩) (fun E ce q9 H locs hth hPO hPC hS hce hcv hcl => ?_) (fun r u H locs hw9 hPO hPC hS => ?_)
  · rcases hth with ⟨h1, rfl⟩ | ⟨h1, rfl⟩ | ⟨h1, rfl⟩
    · exact absurd h1 (fun h1 => by rcases (r_pass (J := I) (a := a) (N := N)) with y | y <;> (rw [h1] at y; exact absurd y (by decide)))
    · have htz := (e_pass2 h1)
      have hz := (e_pass2 h1)
      refine vx_catch (name := "java/lang/IllegalArgumentException") hown [] ⟨0, 9, 12, 15⟩ [] htab (fun _ h => absurd h List.not_mem_nil) (by decide) (by decide) (hts _ (List.mem_of_getElem? (i := 1) rfl)) (nwu34 hN) hce hcv hcl ?_
      refine lv_astore_n (lv' := [(3, .ref q9), (0, .ref (ad 0)), (1, .int a), (2, .ref qo)]) hx hb dL_pass_12 rfl hl (by decide) rfl (fun ls hl => ?_)
      refine lv_iconst (v := nI 1) hx hb dL_pass_13 (by decide) ?_
      exact g_iretH I o hx hb hr hlocks (hPC.app hPO) hS ⟨by rw [htz], FX.rfe (by simp only [mZ_pass]; rw [htz, if_neg (by decide)]) hR hR2, fun y => absurd (htz.symm.trans y) (by decide)⟩ dL_pass_14
    · exact absurd h1 (fun h1 => by rcases (r_pass (J := I) (a := a) (N := N)) with y | y <;> (rw [h1] at y; exact absurd y (by decide)))
  · obtain ⟨hth, hres⟩ := hw9
    have htz := e_pass0.mp hth
    refine lv_i2l (v := r.toInt64) hx hb dL_pass_7 rfl ?_
    refine va_last hx hb hK (hPC.app hPO) (lX_D (J := u) (o' := o) hD) hS (gw kC cs ad u).length 3 (app_rt (k := 0) rfl) rfl (vp_in_nI (by decide) (by decide)) dL_pass_8 (fun H locs hP hD hS => ?_)
    rw [app_set0] at hP
    refine lv_goto (tgt := 15) hx hb dL_pass_9 (by decide) ?_
    refine lv_iconst (v := nI 0) hx hb dL_pass_15 (by decide) ?_
    exact g_iretH u _ hx hb hr hlocks hP hS ⟨by rw [htz], (by simp only [mZ_pass]; rw [if_pos htz]; exact hres.1), fun _ => ⟨r, hres.2, rfl⟩⟩ dL_pass_16
set_option maxHeartbeats 4000000 in
set_option maxRecDepth 100000 in
theorem c_L_count (l : Launch) (hst : l.stackTraces = false) (D : va_G) (cs : Nat → ClassId) (ad : Nat → Nat) (I : Mm) (qo : Nat) (o : Nat → Int64) (sz : Nat) (a : Int32) (N : Nat) (hIV : IV I 1 N) (hR : RX 1 I) (hR2 : RX 26 I) : MetH l yL_count wsL_count ({ frames := 7, cells := 1, slots := 6, locals := 113 }) cs D ad I qo o sz [.ref (ad 0), .int a, .ref qo] (HP (thZ_in a 8 1) I (fun x => x = countF I 1 N a)) 1 6 := by
  refine h_met (cc := cL_count) (maxL := 4) (ret := (some .int)) (hh := [(0, 9, 12, 13)]) (by decide) rfl (Nat.le_of_ble_eq_true rfl) ?_
  intro pg e s m args below meth c ls hx hb hr hml hts hown hlocks hsz hP hD hK hN hS hA hl hX htab
  have hown : s.vm.findClass RL = some m.cls := hown
  have hl : lv_has ls 4 [(0, .ref (ad 0)), (1, .int a), (2, .ref qo)] := hl
  have hN8 := hIV.1.2.1
  have hw := hIV.1
  refine lv_aload_n hx hb dL_count_0 rfl (lv_at hl 2 rfl) ?_
  refine lv_iconst (v := nI 0) hx hb dL_count_1 (by decide) ?_
  refine lv_aload_n hx hb dL_count_2 rfl (lv_at hl 0 rfl) ?_
  refine lv_iload_n hx hb dL_count_3 rfl (lv_at hl 1 rfl) ?_
  have hPC := P_left hP
  have hPO := P_right hP
  have hap := Ap.of hD
  have hg := gA_of_A (K := kC) (cs := cs) (ad := ad) (I := I) (Z := [(qo, lgE cs o)]) (sz := s.heap.size)
  rw [← hsz] at hX hD hS hA ⊢
  refine g_xcalliK hPO hap hS (fun q h => hg q h) (vx_runV (As := [.int a]) (rest := [.int (nI 0), .ref qo]) ⟨hx, hb, hml, hown, hts⟩ (c_X5_count l hst D cs ad I s.heap.size 0 rfl a N hw hR hR2) (cwV 1 hts gL_count_X5_count rfl rfl rfl (by decide +kernel) ⟨Nat.le_of_ble_eq_true rfl, Nat.le_of_ble_eq_true rfl⟩) (g_xpreV hPC (gA_self (D_left hD)) hK hN (hX.narrow (fun q h => hg q h)) va_S.rf rfl (k := 0) rfl (by decide) rfl rfl rfl rfl) rfl rfl hl.1 rfl (lv_room (Nat.le_of_ble_eq_true rfl)) dL_count_4 ⟨Nat.le_of_ble_eq_true rfl, Nat.le_of_ble_eq_true rfl⟩) (fun E ce q9 H locs hth hPO hPC hS hce hcv hcl => ?_) (fun r u H locs hw9 hPO hPC hS => ?_)
  · rcases hth with ⟨h1, rfl⟩ | ⟨h1, rfl⟩ | ⟨h1, rfl⟩
    · have htz := ((e_count (J := I) (N := N)).symm.trans h1)
      have hz := ((e_count (J := I) (N := N)).symm.trans h1)
      refine vx_catch (name := "java/lang/IndexOutOfBoundsException") hown [] ⟨0, 9, 12, 13⟩ [] htab (fun _ h => absurd h List.not_mem_nil) (by decide) (by decide) (hts _ (List.mem_of_getElem? (i := 1) rfl)) (nwu27 hN) hce hcv hcl ?_
      refine lv_astore_n (lv' := [(3, .ref q9), (0, .ref (ad 0)), (1, .int a), (2, .ref qo)]) hx hb dL_count_12 rfl hl (by decide) rfl (fun ls hl => ?_)
      refine lv_iconst (v := nI 1) hx hb dL_count_13 (by decide) ?_
      exact g_iretH I o hx hb hr hlocks (hPC.app hPO) hS ⟨by rw [htz], FX.rf hR hR2, fun y => absurd (htz.symm.trans y) (by decide)⟩ dL_count_14
    · exact absurd h1 (fun h1 => by rcases (lc_in (a := a) (n := 8) (t := 1)) with y | y <;> (rw [← (e_count (J := I) (N := N)), h1] at y; exact absurd y (by decide)))
    · exact absurd h1 (fun h1 => by rcases (lc_in (a := a) (n := 8) (t := 1)) with y | y <;> (rw [← (e_count (J := I) (N := N)), h1] at y; exact absurd y (by decide)))
  · obtain ⟨hth, hres⟩ := hw9
    have htz := (e_count (J := I) (N := N)).symm.trans hth
    refine lv_i2l (v := r.toInt64) hx hb dL_count_7 rfl ?_
    refine va_last hx hb hK (hPC.app hPO) (lX_D (J := u) (o' := o) hD) hS (gw kC cs ad u).length 3 (app_rt (k := 0) rfl) rfl (vp_in_nI (by decide) (by decide)) dL_count_8 (fun H locs hP hD hS => ?_)
    rw [app_set0] at hP
    refine lv_goto (tgt := 15) hx hb dL_count_9 (by decide) ?_
    refine lv_iconst (v := nI 0) hx hb dL_count_15 (by decide) ?_
    exact g_iretH u _ hx hb hr hlocks hP hS ⟨by rw [htz], hres.1, fun _ => ⟨r, hres.2, rfl⟩⟩ dL_count_16
set_option maxHeartbeats 4000000 in
set_option maxRecDepth 100000 in
theorem c_L_way (l : Launch) (hst : l.stackTraces = false) (D : va_G) (cs : Nat → ClassId) (ad : Nat → Nat) (I : Mm) (qo : Nat) (o : Nat → Int64) (sz : Nat) (a : Int32) (b : Int32) (c0 : Int32) (d : Int32) (N : Nat) (hIV : IV I 1 N) (hR : RX 1 I) (hR2 : RX 26 I) : MetH l yL_way wsL_way ({ frames := 8, cells := 2, slots := 12, locals := 129 }) cs D ad I qo o sz [.ref (ad 0), .int a, .int b, .int c0, .int d, .ref qo] (HP (thZ_two a b c0 d) I (fun x => wayF I 1 (pl a b) (pl c0 d) x)) 2 12 := by
  refine h_met (cc := cL_way) (maxL := 7) (ret := (some .int)) (hh := [(0, 14, 17, 13)]) (by decide) rfl (Nat.le_of_ble_eq_true rfl) ?_
  intro pg e s m args below meth c ls hx hb hr hml hts hown hlocks hsz hP hD hK hN hS hA hl hX htab
  have hown : s.vm.findClass RL = some m.cls := hown
  have hl : lv_has ls 7 [(0, .ref (ad 0)), (1, .int a), (2, .int b), (3, .int c0), (4, .int d), (5, .ref qo)] := hl
  have hN8 := hIV.1.2.1
  have hw := hIV.1
  refine lv_aload hx hb dL_way_0 (lv_at hl 5 rfl) ?_
  refine lv_iconst (v := nI 0) hx hb dL_way_2 (by decide) ?_
  refine lv_aload_n hx hb dL_way_3 rfl (lv_at hl 0 rfl) ?_
  refine lv_iload_n hx hb dL_way_4 rfl (lv_at hl 1 rfl) ?_
  refine lv_iload_n hx hb dL_way_5 rfl (lv_at hl 2 rfl) ?_
  refine lv_iload_n hx hb dL_way_6 rfl (lv_at hl 3 rfl) ?_
  refine lv_iload hx hb dL_way_7 (lv_at hl 4 rfl) ?_
  have hPC := P_left hP
  have hPO := P_right hP
  have hap := Ap.of hD
  have hg := gA_of_A (K := kC) (cs := cs) (ad := ad) (I := I) (Z := [(qo, lgE cs o)]) (sz := s.heap.size)
  rw [← hsz] at hX hD hS hA ⊢
  refine g_xcalliK hPO hap hS (fun q h => hg q h) (vx_runV (As := [.int a, .int b, .int c0, .int d]) (rest := [.int (nI 0), .ref qo]) ⟨hx, hb, hml, hown, hts⟩ (c_X5_way l hst D cs ad I s.heap.size 0 rfl a b c0 d N hw hR hR2) (cwV 4 hts gL_way_X5_way rfl rfl rfl (by decide +kernel) ⟨Nat.le_of_ble_eq_true rfl, Nat.le_of_ble_eq_true rfl⟩) (g_xpreV hPC (gA_self (D_left hD)) hK hN (hX.narrow (fun q h => hg q h)) va_S.rf rfl (k := 0) rfl (by decide) rfl rfl rfl rfl) rfl rfl hl.1 rfl (lv_room (Nat.le_of_ble_eq_true rfl)) dL_way_9 ⟨Nat.le_of_ble_eq_true rfl, Nat.le_of_ble_eq_true rfl⟩) (fun E ce q9 H locs hth hPO hPC hS hce hcv hcl => ?_) (fun r u H locs hw9 hPO hPC hS => ?_)
  · rcases hth with ⟨h1, rfl⟩ | ⟨h1, rfl⟩ | ⟨h1, rfl⟩
    · have htz := ((e_way (J := I) (N := N)).symm.trans h1)
      have hz := ((e_way (J := I) (N := N)).symm.trans h1)
      refine vx_catch (name := "java/lang/IndexOutOfBoundsException") hown [] ⟨0, 14, 17, 13⟩ [] htab (fun _ h => absurd h List.not_mem_nil) (by decide) (by decide) (hts _ (List.mem_of_getElem? (i := 1) rfl)) (nwu27 hN) hce hcv hcl ?_
      refine lv_astore (lv' := [(6, .ref q9), (0, .ref (ad 0)), (1, .int a), (2, .int b), (3, .int c0), (4, .int d), (5, .ref qo)]) hx hb dL_way_17 hl (by decide) rfl (fun ls hl => ?_)
      refine lv_iconst (v := nI 1) hx hb dL_way_19 (by decide) ?_
      exact g_iretH I o hx hb hr hlocks (hPC.app hPO) hS ⟨by rw [htz], FX.rf hR hR2, fun y => absurd (htz.symm.trans y) (by decide)⟩ dL_way_20
    · exact absurd h1 (fun h1 => by rcases (r_two (a := a) (b := b) (c0 := c0) (d := d)) with y | y <;> (rw [← (e_way (J := I) (N := N)), h1] at y; exact absurd y (by decide)))
    · exact absurd h1 (fun h1 => by rcases (r_two (a := a) (b := b) (c0 := c0) (d := d)) with y | y <;> (rw [← (e_way (J := I) (N := N)), h1] at y; exact absurd y (by decide)))
  · obtain ⟨hth, hres⟩ := hw9
    have htz := (e_way (J := I) (N := N)).symm.trans hth
    refine lv_i2l (v := r.toInt64) hx hb dL_way_12 rfl ?_
    refine va_last hx hb hK (hPC.app hPO) (lX_D (J := u) (o' := o) hD) hS (gw kC cs ad u).length 3 (app_rt (k := 0) rfl) rfl (vp_in_nI (by decide) (by decide)) dL_way_13 (fun H locs hP hD hS => ?_)
    rw [app_set0] at hP
    refine lv_goto (tgt := 21) hx hb dL_way_14 (by decide) ?_
    refine lv_iconst (v := nI 0) hx hb dL_way_21 (by decide) ?_
    exact g_iretH u _ hx hb hr hlocks hP hS ⟨by rw [htz], hres.1, fun _ => ⟨r, hres.2, rfl⟩⟩ dL_way_22
set_option maxHeartbeats 4000000 in
set_option maxRecDepth 100000 in
theorem c_L_dig (l : Launch) (hst : l.stackTraces = false) (D : va_G) (cs : Nat → ClassId) (ad : Nat → Nat) (I : Mm) (qo : Nat) (o : Nat → Int64) (sz : Nat) (a : Int32) (b : Int32) (c0 : Int32) (d : Int32) (N : Nat) (hIV : IV I 1 N) (hR : RX 1 I) (hR2 : RX 26 I) (hd : Nat → Nat) (hh : Hd I (0 + 1 + 1) hd) : MetH l yL_dig wsL_dig ({ frames := 8, cells := 2, slots := 12, locals := 129 }) cs D ad I qo o sz [.ref (ad 0), .int a, .int b, .int c0, .int d, .ref qo] (HP (thZ_two a b c0 d) I (fun x => DSr hd (pl a b) (pl c0 d) x)) 2 12 := by
  refine h_met (cc := cL_dig) (maxL := 7) (ret := (some .int)) (hh := [(0, 14, 17, 13)]) (by decide) rfl (Nat.le_of_ble_eq_true rfl) ?_
  intro pg e s m args below meth c ls hx hb hr hml hts hown hlocks hsz hP hD hK hN hS hA hl hX htab
  have hown : s.vm.findClass RL = some m.cls := hown
  have hl : lv_has ls 7 [(0, .ref (ad 0)), (1, .int a), (2, .int b), (3, .int c0), (4, .int d), (5, .ref qo)] := hl
  have hN8 := hIV.1.2.1
  have hw := hIV.1
  refine lv_aload hx hb dL_dig_0 (lv_at hl 5 rfl) ?_
  refine lv_iconst (v := nI 0) hx hb dL_dig_2 (by decide) ?_
  refine lv_aload_n hx hb dL_dig_3 rfl (lv_at hl 0 rfl) ?_
  refine lv_iload_n hx hb dL_dig_4 rfl (lv_at hl 1 rfl) ?_
  refine lv_iload_n hx hb dL_dig_5 rfl (lv_at hl 2 rfl) ?_
  refine lv_iload_n hx hb dL_dig_6 rfl (lv_at hl 3 rfl) ?_
  refine lv_iload hx hb dL_dig_7 (lv_at hl 4 rfl) ?_
  have hPC := P_left hP
  have hPO := P_right hP
  have hap := Ap.of hD
  have hg := gA_of_A (K := kC) (cs := cs) (ad := ad) (I := I) (Z := [(qo, lgE cs o)]) (sz := s.heap.size)
  rw [← hsz] at hX hD hS hA ⊢
  refine g_xcalliK hPO hap hS (fun q h => hg q h) (vx_runV (As := [.int a, .int b, .int c0, .int d]) (rest := [.int (nI 0), .ref qo]) ⟨hx, hb, hml, hown, hts⟩ (c_X5_dig l hst D cs ad I s.heap.size 0 rfl a b c0 d N hw hR hR2 hd hh) (cwV 4 hts gL_dig_X5_dig rfl rfl rfl (by decide +kernel) ⟨Nat.le_of_ble_eq_true rfl, Nat.le_of_ble_eq_true rfl⟩) (g_xpreV hPC (gA_self (D_left hD)) hK hN (hX.narrow (fun q h => hg q h)) va_S.rf rfl (k := 0) rfl (by decide) rfl rfl rfl rfl) rfl rfl hl.1 rfl (lv_room (Nat.le_of_ble_eq_true rfl)) dL_dig_9 ⟨Nat.le_of_ble_eq_true rfl, Nat.le_of_ble_eq_true rfl⟩) (fun E ce q9 H locs hth hPO hPC hS hce hcv hcl => ?_) (fun r u H locs hw9 hPO hPC hS => ?_)
  · rcases hth with ⟨h1, rfl⟩ | ⟨h1, rfl⟩ | ⟨h1, rfl⟩
    · have htz := ((e_dig (J := I) (N := N) (hd := hd)).symm.trans h1)
      have hz := ((e_dig (J := I) (N := N) (hd := hd)).symm.trans h1)
      refine vx_catch (name := "java/lang/IndexOutOfBoundsException") hown [] ⟨0, 14, 17, 13⟩ [] htab (fun _ h => absurd h List.not_mem_nil) (by decide) (by decide) (hts _ (List.mem_of_getElem? (i := 1) rfl)) (nwu27 hN) hce hcv hcl ?_
      refine lv_astore (lv' := [(6, .ref q9), (0, .ref (ad 0)), (1, .int a), (2, .int b), (3, .int c0), (4, .int d), (5, .ref qo)]) hx hb dL_dig_17 hl (by decide) rfl (fun ls hl => ?_)
      refine lv_iconst (v := nI 1) hx hb dL_dig_19 (by decide) ?_
      exact g_iretH I o hx hb hr hlocks (hPC.app hPO) hS ⟨by rw [htz], FX.rf hR hR2, fun y => absurd (htz.symm.trans y) (by decide)⟩ dL_dig_20
    · exact absurd h1 (fun h1 => by rcases (r_two (a := a) (b := b) (c0 := c0) (d := d)) with y | y <;> (rw [← (e_dig (J := I) (N := N) (hd := hd)), h1] at y; exact absurd y (by decide)))
    · exact absurd h1 (fun h1 => by rcases (r_two (a := a) (b := b) (c0 := c0) (d := d)) with y | y <;> (rw [← (e_dig (J := I) (N := N) (hd := hd)), h1] at y; exact absurd y (by decide)))
  · obtain ⟨hth, hres⟩ := hw9
    have htz := (e_dig (J := I) (N := N) (hd := hd)).symm.trans hth
    refine lv_i2l (v := r.toInt64) hx hb dL_dig_12 rfl ?_
    refine va_last hx hb hK (hPC.app hPO) (lX_D (J := u) (o' := o) hD) hS (gw kC cs ad u).length 3 (app_rt (k := 0) rfl) rfl (vp_in_nI (by decide) (by decide)) dL_dig_13 (fun H locs hP hD hS => ?_)
    rw [app_set0] at hP
    refine lv_goto (tgt := 21) hx hb dL_dig_14 (by decide) ?_
    refine lv_iconst (v := nI 0) hx hb dL_dig_21 (by decide) ?_
    exact g_iretH u _ hx hb hr hlocks hP hS ⟨by rw [htz], hres.1, fun _ => ⟨r, hres.2, rfl⟩⟩ dL_dig_22
set_option maxHeartbeats 4000000 in
set_option maxRecDepth 100000 in
theorem c_L_caves (l : Launch) (hst : l.stackTraces = false) (D : va_G) (cs : Nat → ClassId) (ad : Nat → Nat) (I : Mm) (qo : Nat) (o : Nat → Int64) (sz : Nat) (a : Int32) (N : Nat) (hIV : IV I 1 N) (hR : RX 1 I) (hR2 : RX 26 I) : MetH l yL_caves wsL_caves ({ frames := 7, cells := 1, slots := 6, locals := 103 }) cs D ad I qo o sz [.ref (ad 0), .int a, .ref qo] (HP (thZ_in a 2 1) I (fun x => x = cavesF I 1 N a)) 1 6 := by
  refine h_met (cc := cL_caves) (maxL := 4) (ret := (some .int)) (hh := [(0, 9, 12, 13)]) (by decide) rfl (Nat.le_of_ble_eq_true rfl) ?_
  intro pg e s m args below meth c ls hx hb hr hml hts hown hlocks hsz hP hD hK hN hS hA hl hX htab
  have hown : s.vm.findClass RL = some m.cls := hown
  have hl : lv_has ls 4 [(0, .ref (ad 0)), (1, .int a), (2, .ref qo)] := hl
  have hN8 := hIV.1.2.1
  have hw := hIV.1
  refine lv_aload_n hx hb dL_caves_0 rfl (lv_at hl 2 rfl) ?_
  refine lv_iconst (v := nI 0) hx hb dL_caves_1 (by decide) ?_
  refine lv_aload_n hx hb dL_caves_2 rfl (lv_at hl 0 rfl) ?_
  refine lv_iload_n hx hb dL_caves_3 rfl (lv_at hl 1 rfl) ?_
  have hPC := P_left hP
  have hPO := P_right hP
  have hap := Ap.of hD
  have hg := gA_of_A (K := kC) (cs := cs) (ad := ad) (I := I) (Z := [(qo, lgE cs o)]) (sz := s.heap.size)
  rw [← hsz] at hX hD hS hA ⊢
  refine g_xcalliK hPO hap hS (fun q h => hg q h) (vx_runV (As := [.int a]) (rest := [.int (nI 0), .ref qo]) ⟨hx, hb, hml, hown, hts⟩ (c_X5_caves l hst D cs ad I s.heap.size 0 rfl a N hw hR hR2) (cwV 1 hts gL_caves_X5_caves rfl rfl rfl (by decide +kernel) ⟨Nat.le_of_ble_eq_true rfl, Nat.le_of_ble_eq_true rfl⟩) (g_xpreV hPC (gA_self (D_left hD)) hK hN (hX.narrow (fun q h => hg q h)) va_S.rf rfl (k := 0) rfl (by decide) rfl rfl rfl rfl) rfl rfl hl.1 rfl (lv_room (Nat.le_of_ble_eq_true rfl)) dL_caves_4 ⟨Nat.le_of_ble_eq_true rfl, Nat.le_of_ble_eq_true rfl⟩) (fun E ce q9 H locs hth hPO hPC hS hce hcv hcl => ?_) (fun r u H locs hw9 hPO hPC hS => ?_)
  · rcases hth with ⟨h1, rfl⟩ | ⟨h1, rfl⟩ | ⟨h1, rfl⟩
    · have htz := ((e_caves (J := I) (N := N)).symm.trans h1)
      have hz := ((e_caves (J := I) (N := N)).symm.trans h1)
      refine vx_catch (name := "java/lang/IndexOutOfBoundsException") hown [] ⟨0, 9, 12, 13⟩ [] htab (fun _ h => absurd h List.not_mem_nil) (by decide) (by decide) (hts _ (List.mem_of_getElem? (i := 1) rfl)) (nwu27 hN) hce hcv hcl ?_
      refine lv_astore_n (lv' := [(3, .ref q9), (0, .ref (ad 0)), (1, .int a), (2, .ref qo)]) hx hb dL_caves_12 rfl hl (by decide) rfl (fun ls hl => ?_)
      refine lv_iconst (v := nI 1) hx hb dL_caves_13 (by decide) ?_
      exact g_iretH I o hx hb hr hlocks (hPC.app hPO) hS ⟨by rw [htz], FX.rf hR hR2, fun y => absurd (htz.symm.trans y) (by decide)⟩ dL_caves_14
    · exact absurd h1 (fun h1 => by rcases (lc_in (a := a) (n := 2) (t := 1)) with y | y <;> (rw [← (e_caves (J := I) (N := N)), h1] at y; exact absurd y (by decide)))
    · exact absurd h1 (fun h1 => by rcases (lc_in (a := a) (n := 2) (t := 1)) with y | y <;> (rw [← (e_caves (J := I) (N := N)), h1] at y; exact absurd y (by decide)))
  · obtain ⟨hth, hres⟩ := hw9
    have htz := (e_caves (J := I) (N := N)).symm.trans hth
    refine lv_i2l (v := r.toInt64) hx hb dL_caves_7 rfl ?_
    refine va_last hx hb hK (hPC.app hPO) (lX_D (J := u) (o' := o) hD) hS (gw kC cs ad u).length 3 (app_rt (k := 0) rfl) rfl (vp_in_nI (by decide) (by decide)) dL_caves_8 (fun H locs hP hD hS => ?_)
    rw [app_set0] at hP
    refine lv_goto (tgt := 15) hx hb dL_caves_9 (by decide) ?_
    refine lv_iconst (v := nI 0) hx hb dL_caves_15 (by decide) ?_
    exact g_iretH u _ hx hb hr hlocks hP hS ⟨by rw [htz], hres.1, fun _ => ⟨r, hres.2, rfl⟩⟩ dL_caves_16
set_option maxHeartbeats 4000000 in
set_option maxRecDepth 100000 in
theorem c_L_meet (l : Launch) (hst : l.stackTraces = false) (D : va_G) (cs : Nat → ClassId) (ad : Nat → Nat) (I : Mm) (qo : Nat) (o : Nat → Int64) (sz : Nat) (a : Int32) (b : Int32) (c0 : Int32) (N : Nat) (hIV : IV I 1 N) (hR : RX 1 I) (hR2 : RX 26 I) : MetH l yL_meet wsL_meet ({ frames := 8, cells := 3, slots := 18, locals := 164 }) cs D ad I qo o sz [.ref (ad 0), .int a, .int b, .int c0, .ref qo] (HP (thZ_meet N a b c0) I (fun x => mtS (togA (ahd I 0) 26 N a.toNatClampNeg b.toNatClampNeg) c0.toNatClampNeg x)) 3 18 := by
  refine h_met (cc := cL_meet) (maxL := 6) (ret := (some .int)) (hh := [(0, 12, 15, 13), (0, 12, 19, 15)]) (by decide) rfl (Nat.le_of_ble_eq_true rfl) ?_
  intro pg e s m args below meth c ls hx hb hr hml hts hown hlocks hsz hP hD hK hN hS hA hl hX htab
  have hown : s.vm.findClass RL = some m.cls := hown
  have hl : lv_has ls 6 [(0, .ref (ad 0)), (1, .int a), (2, .int b), (3, .int c0), (4, .ref qo)] := hl
  have hN8 := hIV.1.2.1
  have hw := hIV.1
  refine lv_aload hx hb dL_meet_0 (lv_at hl 4 rfl) ?_
  refine lv_iconst (v := nI 0) hx hb dL_meet_2 (by decide) ?_
  refine lv_aload_n hx hb dL_meet_3 rfl (lv_at hl 0 rfl) ?_
  refine lv_iload_n hx hb dL_meet_4 rfl (lv_at hl 1 rfl) ?_
  refine lv_iload_n hx hb dL_meet_5 rfl (lv_at hl 2 rfl) ?_
  refine lv_iload_n hx hb dL_meet_6 rfl (lv_at hl 3 rfl) ?_
  have hPC := P_left hP
  have hPO := P_right hP
  have hap := Ap.of hD
  have hg := gA_of_A (K := kC) (cs := cs) (ad := ad) (I := I) (Z := [(qo, lgE cs o)]) (sz := s.heap.size)
  rw [← hsz] at hX hD hS hA ⊢
  refine g_xcalliK hPO hap hS (fun q h => hg q h) (vx_runV (As := [.int a, .int b, .int c0]) (rest := [.int (nI 0), .ref qo]) ⟨hx, hb, hml, hown, hts⟩ (c_X5_meet l hst D cs ad I s.heap.size 0 rfl a b c0 N hw hR hR2) (cwV 3 hts gL_meet_X5_meet rfl rfl rfl (by decide +kernel) ⟨Nat.le_of_ble_eq_true rfl, Nat.le_of_ble_eq_true rfl⟩) (g_xpreV hPC (gA_self (D_left hD)) hK hN (hX.narrow (fun q h => hg q h)) va_S.rf rfl (k := 0) rfl (by decide) rfl rfl rfl rfl) rfl rfl hl.1 rfl (lv_room (Nat.le_of_ble_eq_true rfl)) dL_meet_7 ⟨Nat.le_of_ble_eq_true rfl, Nat.le_of_ble_eq_true rfl⟩) (fun E ce q9 H locs hth hPO hPC hS hce hcv hcl => ?_) (fun r u H locs hw9 hPO hPC hS => ?_)
  · rcases hth with ⟨h1, rfl⟩ | ⟨h1, rfl⟩ | ⟨h1, rfl⟩
    · have htz := ((e_meet (J := I) (N := N)).symm.trans h1)
      have hz := ((e_meet (J := I) (N := N)).symm.trans h1)
      refine vx_catch (name := "java/lang/IndexOutOfBoundsException") hown [] ⟨0, 12, 15, 13⟩ [(⟨0, 12, 19, 15⟩ : ExceptionTableEntry)] htab (fun _ h => absurd h List.not_mem_nil) (by decide) (by decide) (hts _ (List.mem_of_getElem? (i := 1) rfl)) (nwu27 hN) hce hcv hcl ?_
      refine lv_astore (lv' := [(5, .ref q9), (0, .ref (ad 0)), (1, .int a), (2, .int b), (3, .int c0), (4, .ref qo)]) hx hb dL_meet_15 hl (by decide) rfl (fun ls hl => ?_)
      refine lv_iconst (v := nI 1) hx hb dL_meet_17 (by decide) ?_
      exact g_iretH I o hx hb hr hlocks (hPC.app hPO) hS ⟨by rw [htz], FX.rf hR hR2, fun y => absurd (htz.symm.trans y) (by decide)⟩ dL_meet_18
    · have htz := ((e_meet (J := I) (N := N)).symm.trans h1)
      have hz := ((e_meet (J := I) (N := N)).symm.trans h1)
      refine vx_catch (name := "java/lang/IllegalArgumentException") hown [(⟨0, 12, 15, 13⟩ : ExceptionTableEntry)] ⟨0, 12, 19, 15⟩ [] htab (List.forall_mem_cons.mpr ⟨Or.inr ⟨by decide, _, (hts _ (List.mem_of_getElem? (i := 1) rfl)), hX.2.2.2 _ (List.mem_of_getElem? (i := 0) rfl)⟩, (fun _ h => absurd h List.not_mem_nil)⟩) (by decide) (by decide) (hts _ (List.mem_of_getElem? (i := 2) rfl)) (nwu34 hN) hce hcv hcl ?_
      refine lv_astore (lv' := [(5, .ref q9), (0, .ref (ad 0)), (1, .int a), (2, .int b), (3, .int c0), (4, .ref qo)]) hx hb dL_meet_19 hl (by decide) rfl (fun ls hl => ?_)
      refine lv_iconst (v := nI 2) hx hb dL_meet_21 (by decide) ?_
      exact g_iretH I o hx hb hr hlocks (hPC.app hPO) hS ⟨by rw [htz], FX.rf hR hR2, fun y => absurd (htz.symm.trans y) (by decide)⟩ dL_meet_22
    · exact absurd h1 (fun h1 => by rcases (r_meet (a := a) (b := b) (c0 := c0) (N := N)) with y | y | y <;> (rw [← (e_meet (J := I) (N := N)), h1] at y; exact absurd y (by decide)))
  · obtain ⟨hth, hres⟩ := hw9
    have htz := (e_meet (J := I) (N := N)).symm.trans hth
    refine lv_i2l (v := r.toInt64) hx hb dL_meet_10 rfl ?_
    refine va_last hx hb hK (hPC.app hPO) (lX_D (J := u) (o' := o) hD) hS (gw kC cs ad u).length 3 (app_rt (k := 0) rfl) rfl (vp_in_nI (by decide) (by decide)) dL_meet_11 (fun H locs hP hD hS => ?_)
    rw [app_set0] at hP
    refine lv_goto (tgt := 23) hx hb dL_meet_12 (by decide) ?_
    refine lv_iconst (v := nI 0) hx hb dL_meet_23 (by decide) ?_
    exact g_iretH u _ hx hb hr hlocks hP hS ⟨by rw [htz], hres.1, fun _ => ⟨r, hres.2, rfl⟩⟩ dL_meet_24
set_option maxHeartbeats 4000000 in
set_option maxRecDepth 100000 in
theorem c_L_foresee (l : Launch) (hst : l.stackTraces = false) (D : va_G) (cs : Nat → ClassId) (ad : Nat → Nat) (I : Mm) (qo : Nat) (o : Nat → Int64) (sz : Nat) (a : Int32) (b : Int32) (N : Nat) (hIV : IV I 1 N) (hR : RX 1 I) (hR2 : RX 26 I) : MetH l yL_foresee wsL_foresee ({ frames := 8, cells := 2, slots := 12, locals := 161 }) cs D ad I qo o sz [.ref (ad 0), .int a, .int b, .ref qo] (HP (thZ_fs a b) I (fun x => x = fsF (tkI (ahd I 0) 26 N a.toNatClampNeg) 26 N b)) 2 12 := by
  refine h_met (cc := cL_foresee) (maxL := 5) (ret := (some .int)) (hh := [(0, 10, 13, 15), (0, 10, 17, 13)]) (by decide) rfl (Nat.le_of_ble_eq_true rfl) ?_
  intro pg e s m args below meth c ls hx hb hr hml hts hown hlocks hsz hP hD hK hN hS hA hl hX htab
  have hown : s.vm.findClass RL = some m.cls := hown
  have hl : lv_has ls 5 [(0, .ref (ad 0)), (1, .int a), (2, .int b), (3, .ref qo)] := hl
  have hN8 := hIV.1.2.1
  have hw := hIV.1
  refine lv_aload_n hx hb dL_foresee_0 rfl (lv_at hl 3 rfl) ?_
  refine lv_iconst (v := nI 0) hx hb dL_foresee_1 (by decide) ?_
  refine lv_aload_n hx hb dL_foresee_2 rfl (lv_at hl 0 rfl) ?_
  refine lv_iload_n hx hb dL_foresee_3 rfl (lv_at hl 1 rfl) ?_
  refine lv_iload_n hx hb dL_foresee_4 rfl (lv_at hl 2 rfl) ?_
  have hPC := P_left hP
  have hPO := P_right hP
  have hap := Ap.of hD
  have hg := gA_of_A (K := kC) (cs := cs) (ad := ad) (I := I) (Z := [(qo, lgE cs o)]) (sz := s.heap.size)
  rw [← hsz] at hX hD hS hA ⊢
  refine g_xcalliK hPO hap hS (fun q h => hg q h) (vx_runV (As := [.int a, .int b]) (rest := [.int (nI 0), .ref qo]) ⟨hx, hb, hml, hown, hts⟩ (c_X5_foresee l hst D cs ad I s.heap.size 0 rfl a b N hw hR hR2) (cwV 2 hts gL_foresee_X5_foresee rfl rfl rfl (by decide +kernel) ⟨Nat.le_of_ble_eq_true rfl, Nat.le_of_ble_eq_true rfl⟩) (g_xpreV hPC (gA_self (D_left hD)) hK hN (hX.narrow (fun q h => hg q h)) va_S.rf rfl (k := 0) rfl (by decide) rfl rfl rfl rfl) rfl rfl hl.1 rfl (lv_room (Nat.le_of_ble_eq_true rfl)) dL_foresee_5 ⟨Nat.le_of_ble_eq_true rfl, Nat.le_of_ble_eq_true rfl⟩) (fun E ce q9 H locs hth hPO hPC hS hce hcv hcl => ?_) (fun r u H locs hw9 hPO hPC hS => ?_)
  · rcases hth with ⟨h1, rfl⟩ | ⟨h1, rfl⟩ | ⟨h1, rfl⟩
    · have htz := (e_fs1 h1)
      have hz := (e_fs1 h1)
      refine vx_catch (name := "java/lang/IndexOutOfBoundsException") hown [(⟨0, 10, 13, 15⟩ : ExceptionTableEntry)] ⟨0, 10, 17, 13⟩ [] htab (List.forall_mem_cons.mpr ⟨Or.inr ⟨by decide, _, (hts _ (List.mem_of_getElem? (i := 1) rfl)), hX.2.2.2 _ (List.mem_of_getElem? (i := 3) rfl)⟩, (fun _ h => absurd h List.not_mem_nil)⟩) (by decide) (by decide) (hts _ (List.mem_of_getElem? (i := 2) rfl)) (nwu27 hN) hce hcv hcl ?_
      refine lv_astore (lv' := [(4, .ref q9), (0, .ref (ad 0)), (1, .int a), (2, .int b), (3, .ref qo)]) hx hb dL_foresee_17 hl (by decide) rfl (fun ls hl => ?_)
      refine lv_iconst (v := nI 2) hx hb dL_foresee_19 (by decide) ?_
      exact g_iretH I o hx hb hr hlocks (hPC.app hPO) hS ⟨by rw [htz], FX.rf hR hR2, fun y => absurd (htz.symm.trans y) (by decide)⟩ dL_foresee_20
    · have htz := (e_fs2 h1)
      have hz := (e_fs2 h1)
      refine vx_catch (name := "java/lang/IllegalArgumentException") hown [] ⟨0, 10, 13, 15⟩ [(⟨0, 10, 17, 13⟩ : ExceptionTableEntry)] htab (fun _ h => absurd h List.not_mem_nil) (by decide) (by decide) (hts _ (List.mem_of_getElem? (i := 1) rfl)) (nwu34 hN) hce hcv hcl ?_
      refine lv_astore (lv' := [(4, .ref q9), (0, .ref (ad 0)), (1, .int a), (2, .int b), (3, .ref qo)]) hx hb dL_foresee_13 hl (by decide) rfl (fun ls hl => ?_)
      refine lv_iconst (v := nI 1) hx hb dL_foresee_15 (by decide) ?_
      exact g_iretH I o hx hb hr hlocks (hPC.app hPO) hS ⟨by rw [htz], FX.rf hR hR2, fun y => absurd (htz.symm.trans y) (by decide)⟩ dL_foresee_16
    · exact absurd h1 (fun h1 => by rcases (r_fs (J := I) (a := a) (b := b) (N := N)) with y | y | y <;> (rw [h1] at y; exact absurd y (by decide)))
  · obtain ⟨hth, hres⟩ := hw9
    have htz := e_fs0 hth
    refine lv_i2l (v := r.toInt64) hx hb dL_foresee_8 rfl ?_
    refine va_last hx hb hK (hPC.app hPO) (lX_D (J := u) (o' := o) hD) hS (gw kC cs ad u).length 3 (app_rt (k := 0) rfl) rfl (vp_in_nI (by decide) (by decide)) dL_foresee_9 (fun H locs hP hD hS => ?_)
    rw [app_set0] at hP
    refine lv_goto (tgt := 21) hx hb dL_foresee_10 (by decide) ?_
    refine lv_iconst (v := nI 0) hx hb dL_foresee_21 (by decide) ?_
    exact g_iretH u _ hx hb hr hlocks hP hS ⟨by rw [htz], hres.1, fun _ => ⟨r, hres.2, rfl⟩⟩ dL_foresee_22
set_option maxHeartbeats 4000000 in
set_option maxRecDepth 100000 in
theorem c_L_without (l : Launch) (hst : l.stackTraces = false) (D : va_G) (cs : Nat → ClassId) (ad : Nat → Nat) (I : Mm) (qo : Nat) (o : Nat → Int64) (sz : Nat) (a : Int32) (b : Int32) (N : Nat) (hIV : IV I 1 N) (hR : RX 1 I) (hR2 : RX 26 I) : MetH l yL_without wsL_without ({ frames := 8, cells := 1, slots := 6, locals := 126 }) cs D ad I qo o sz [.ref (ad 0), .int a, .int b, .ref qo] (HP (th_X5_placeOf a b) I (fun x => x = withoutF I 1 (pl a b))) 1 6 := by
  refine h_met (cc := cL_without) (maxL := 5) (ret := (some .int)) (hh := [(0, 10, 13, 13)]) (by decide) rfl (Nat.le_of_ble_eq_true rfl) ?_
  intro pg e s m args below meth c ls hx hb hr hml hts hown hlocks hsz hP hD hK hN hS hA hl hX htab
  have hown : s.vm.findClass RL = some m.cls := hown
  have hl : lv_has ls 5 [(0, .ref (ad 0)), (1, .int a), (2, .int b), (3, .ref qo)] := hl
  have hN8 := hIV.1.2.1
  have hw := hIV.1
  refine lv_aload_n hx hb dL_without_0 rfl (lv_at hl 3 rfl) ?_
  refine lv_iconst (v := nI 0) hx hb dL_without_1 (by decide) ?_
  refine lv_aload_n hx hb dL_without_2 rfl (lv_at hl 0 rfl) ?_
  refine lv_iload_n hx hb dL_without_3 rfl (lv_at hl 1 rfl) ?_
  refine lv_iload_n hx hb dL_without_4 rfl (lv_at hl 2 rfl) ?_
  have hPC := P_left hP
  have hPO := P_right hP
  have hap := Ap.of hD
  have hg := gA_of_A (K := kC) (cs := cs) (ad := ad) (I := I) (Z := [(qo, lgE cs o)]) (sz := s.heap.size)
  rw [← hsz] at hX hD hS hA ⊢
  refine g_xcalliK hPO hap hS (fun q h => hg q h) (vx_runV (As := [.int a, .int b]) (rest := [.int (nI 0), .ref qo]) ⟨hx, hb, hml, hown, hts⟩ (c_X5_without l hst D cs ad I s.heap.size 0 rfl a b N hw hR hR2) (cwV 2 hts gL_without_X5_without rfl rfl rfl (by decide +kernel) ⟨Nat.le_of_ble_eq_true rfl, Nat.le_of_ble_eq_true rfl⟩) (g_xpreV hPC (gA_self (D_left hD)) hK hN (hX.narrow (fun q h => hg q h)) va_S.rf rfl (k := 0) rfl (by decide) rfl rfl rfl rfl) rfl rfl hl.1 rfl (lv_room (Nat.le_of_ble_eq_true rfl)) dL_without_5 ⟨Nat.le_of_ble_eq_true rfl, Nat.le_of_ble_eq_true rfl⟩) (fun E ce q9 H locs hth hPO hPC hS hce hcv hcl => ?_) (fun r u H locs hw9 hPO hPC hS => ?_)
  · rcases hth with ⟨h1, rfl⟩ | ⟨h1, rfl⟩ | ⟨h1, rfl⟩
    · have htz := ((e_without (J := I) (N := N)).symm.trans h1)
      have hz := ((e_without (J := I) (N := N)).symm.trans h1)
      refine vx_catch (name := "java/lang/IndexOutOfBoundsException") hown [] ⟨0, 10, 13, 13⟩ [] htab (fun _ h => absurd h List.not_mem_nil) (by decide) (by decide) (hts _ (List.mem_of_getElem? (i := 1) rfl)) (nwu27 hN) hce hcv hcl ?_
      refine lv_astore (lv' := [(4, .ref q9), (0, .ref (ad 0)), (1, .int a), (2, .int b), (3, .ref qo)]) hx hb dL_without_13 hl (by decide) rfl (fun ls hl => ?_)
      refine lv_iconst (v := nI 1) hx hb dL_without_15 (by decide) ?_
      exact g_iretH I o hx hb hr hlocks (hPC.app hPO) hS ⟨by rw [htz], FX.rf hR hR2, fun y => absurd (htz.symm.trans y) (by decide)⟩ dL_without_16
    · exact absurd h1 (fun h1 => by rcases (lc_place (a := a) (b := b)) with y | y <;> (rw [← (e_without (J := I) (N := N)), h1] at y; exact absurd y (by decide)))
    · exact absurd h1 (fun h1 => by rcases (lc_place (a := a) (b := b)) with y | y <;> (rw [← (e_without (J := I) (N := N)), h1] at y; exact absurd y (by decide)))
  · obtain ⟨hth, hres⟩ := hw9
    have htz := (e_without (J := I) (N := N)).symm.trans hth
    refine lv_i2l (v := r.toInt64) hx hb dL_without_8 rfl ?_
    refine va_last hx hb hK (hPC.app hPO) (lX_D (J := u) (o' := o) hD) hS (gw kC cs ad u).length 3 (app_rt (k := 0) rfl) rfl (vp_in_nI (by decide) (by decide)) dL_without_9 (fun H locs hP hD hS => ?_)
    rw [app_set0] at hP
    refine lv_goto (tgt := 17) hx hb dL_without_10 (by decide) ?_
    refine lv_iconst (v := nI 0) hx hb dL_without_17 (by decide) ?_
    exact g_iretH u _ hx hb hr hlocks hP hS ⟨by rw [htz], hres.1, fun _ => ⟨r, hres.2, rfl⟩⟩ dL_without_18
