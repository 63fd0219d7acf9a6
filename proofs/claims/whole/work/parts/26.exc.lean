def xStrs : List (Nat × String) := [(177, "the counts are 0 to 8"), (236, "no such tunneller"), (141, "a tunneller tells 0 to 8"), (231, "no such cell"), (32, "no such sort"), (43, "a tunneller is there"), (78, "a cell tells 0 to 5"), (81, "posts are 0 to 20"), (83, "lamps are 0 to 9"), (88, "nobody can come there"), (94, "there are 8 tunnellers"), (104, "orders are 0 to 6"), (106, "times are 1 to 9"), (113, "there would be more than 24 orders"), (233, "ticks are 1 to 100"), (195, "caves tell 0 to 2"), (197, "both are the same"), (207, "what is foreseen is 0 to 3")]
def xNcs : List (String × String) := [("java/lang/IllegalArgumentException", "java/lang/IndexOutOfBoundsException"), ("java/lang/IllegalStateException", "java/lang/IndexOutOfBoundsException"), ("java/lang/IllegalStateException", "java/lang/IllegalArgumentException"), ("java/lang/IndexOutOfBoundsException", "java/lang/IllegalArgumentException")]
def XW (A : Nat → Prop) (U : State) (H : Heap) : Prop := vx_Zq Bundle.tN "UNASSIGNED_STACK" Bundle.steD A U H ∧ vx_Zq Bundle.tN "SUPPRESSED_SENTINEL" Bundle.listD A U H ∧ (∀ q ∈ xStrs, ∃ sa, vk_R "SnowMaze" q.1 q.2 sa U) ∧ (∀ q ∈ xNcs, va_Nc q.1 q.2 U)
theorem XW.warm {A : Nat → Prop} {s U : State} {H : Heap} (hW : s.WarmedH U.vm) (h : XW A s H) : XW A U H := ⟨h.1.moved hW.alike, h.2.1.moved hW.alike, fun q hq => (h.2.2.1 q hq).elim fun sa y => ⟨sa, y.warm hW⟩, fun q hq => (h.2.2.2 q hq).moved hW.alike⟩
theorem XW.same {A : Nat → Prop} {u U : State} {H : Heap} (hv : U.vm = u.vm) (h : XW A u H) : XW A U H := ⟨h.1.moved (by rw [hv]; exact Vm.Alike.refl _), h.2.1.moved (by rw [hv]; exact Vm.Alike.refl _), fun q hq => (h.2.2.1 q hq).elim fun sa y => ⟨sa, y.same hv⟩, fun q hq => (h.2.2.2 q hq).moved (by rw [hv]; exact Vm.Alike.refl _)⟩
theorem XW.at {A : Nat → Prop} {s : State} {H : Heap} {locs : List Loc} (h : XW A s s.heap) (hS : va_S A s.heap H locs) : XW A s H := ⟨h.1.kept hS.2.1, h.2.1.kept hS.2.1, h.2.2.1, h.2.2.2⟩
theorem XW.narrow {A B : Nat → Prop} {s : State} {H : Heap} (h : XW A s H) (hAB : ∀ q, B q → A q) : XW B s H := ⟨h.1.narrow hAB, h.2.1.narrow hAB, h.2.2.1, h.2.2.2⟩
def wpreX (K : List Nat) (cs : Nat → ClassId) (D : va_G) (ad : Nat → Nat) (I : Mm) (sz : Nat) (U : State) : Prop := wpre K cs D ad I sz U ∧ XW (gA K ad sz) U U.heap
abbrev XC0 (K : List Nat) (cs : Nat → ClassId) (D : va_G) (ad : Nat → Nat) (I : Mm) (sz : Nat) (thr : String → Prop) : String → State → State → Prop := vx_X (fun u : Mm => u = I) (fun E u t => thr E ∧ wat K cs D ad (gA K ad sz) u t) (gA K ad sz)
abbrev MetXI (l : Launch) (y : MethodName) (ws : List Cond) (rm : Room) (K : List Nat) (cs : Nat → ClassId) (D : va_G) (ad : Nat → Nat) (I : Mm) (sz : Nat) (av : List Value) (post : Int32 → Mm → Prop) (thr : String → Prop) (mc ms : Nat) : Prop := vx_Met l y ws rm (va_Pc av (wpreX K cs D ad I sz)) (va_Qi post (wat K cs D ad (gA K ad sz)) (gA K ad sz)) (XC0 K cs D ad I sz thr) mc ms (gA K ad sz)
abbrev MetXN (l : Launch) (y : MethodName) (ws : List Cond) (rm : Room) (K : List Nat) (cs : Nat → ClassId) (D : va_G) (ad : Nat → Nat) (I : Mm) (sz : Nat) (av : List Value) (post : Mm → Prop) (thr : String → Prop) (mc ms : Nat) : Prop := vx_Met l y ws rm (va_Pc av (wpreX K cs D ad I sz)) (va_Qv post (wat K cs D ad (gA K ad sz)) (gA K ad sz)) (XC0 K cs D ad I sz thr) mc ms (gA K ad sz)
abbrev MetXQ (l : Launch) (y : MethodName) (ws : List Cond) (rm : Room) (K : List Nat) (cs : Nat → ClassId) (D : va_G) (ad : Nat → Nat) (I : Mm) (sz : Nat) (av : List Value) (post : Option Nat → Mm → Prop) (thr : String → Prop) (mc ms : Nat) : Prop := vx_Met l y ws rm (va_Pc av (wpreX K cs D ad I sz)) (va_Qq post (wat K cs D ad (gA K ad sz)) (gA K ad sz)) (XC0 K cs D ad I sz thr) mc ms (gA K ad sz)
theorem g_xmet {l : Launch} {y : MethodName} {ws ws' : List Cond} {rm : Room} {K : List Nat} {cs : Nat → ClassId} {D : va_G} {ad : Nat → Nat} {I : Mm} {sz : Nat} {av : List Value} {Qc : Array Value → State → Outcome → State → Prop} {XC : String → State → State → Prop} {mc ms : Nat} {cc : ByteArray} {maxL : Nat} {ret : Option FieldType}
    (hy : plainName y.cls = true) (hw : ws = Cond.code y cc maxL ret :: ws') (hlen : (lg_sl av).length ≤ maxL)
    (body : ∀ (p : Program) (e : Env) (s : State) (m : MethodId) (args : Array Value) (below : List Frame) (meth : Method) (c : Code) (ls : Array Slot), p.tables.exec = Jvm.exec → c.code = cc → meth.sig.returnType = ret → c.maxLocals = maxL → (∀ w ∈ ws, w.before args s = true) → s.vm.findClass y.cls = some m.cls → meth.locks = false → s.heap.size = sz → va_P D vwCl (gw K cs ad I) s.heap → va_D (gA K ad sz) (gw K cs ad I) → va_K D vwCl (tyA cs) s → NW s → va_S (gA K ad sz) s.heap s.heap [] → (∀ q, s.heap.size ≤ q → gA K ad sz q) → lv_has ls maxL (lv_args 0 av) → XW (gA K ad sz) s s.heap → (∀ x ∈ c.exceptionTable.toList, False) →
      W p l e rm s m args below meth c s.heap [] 0 0 (vx_MQ below Qc XC args s mc ms (gA K ad sz)) (F0 m 0 ls [])) :
    vx_Met l y ws rm (va_Pc av (wpreX K cs D ad I sz)) Qc XC mc ms (gA K ad sz) := by
  refine vx_ofW (cc := cc) (maxL := maxL) (ret := ret) hy hw ?_
  intro p e s m args below meth c s₁ B hml ht hv
  obtain ⟨rfl, ⟨hsz, hP, hK, hD0, hN⟩, hX⟩ := hv
  have hl := lv_entry av (n := maxL) hlen
  rw [lg_entry_eq]
  generalize (lg_sl av ++ List.replicate (maxL - (lg_sl av).length) Slot.unset).toArray = ls at hl ⊢
  exact body p e s m _ below meth c ls B.exec B.bytes B.returns hml (atoms_spec (ws := ws) B.pre) (findClass_of_methodNamed B.named) B.notSynchronized hsz hP (gA_self hD0) hK hN va_S.rf (fun q h => Or.inr (by rw [← hsz]; exact h)) hl hX ht
/-- a method over the same start that doesn't throw -/
theorem g_metX {l : Launch} {y : MethodName} {ws ws' : List Cond} {rm : Room} {K : List Nat} {cs : Nat → ClassId} {D : va_G} {ad : Nat → Nat} {I : Mm} {sz : Nat} {av : List Value} {Qc : Array Value → State → Outcome → State → Prop} {mc ms : Nat} {cc : ByteArray} {maxL : Nat} {ret : Option FieldType} (h : Met l y ws rm (va_Pc av (wpre K cs D ad I sz)) Qc mc ms (gA K ad sz)) : True := trivial
section XROW
variable {p : Program} {l : Launch} {e : Env} {R : Room} {s : State} {m : MethodId} {args : Array Value} {below : List Frame} {meth : Method} {c : Code} {H : Heap} {locs : List Loc} {cells slots : Nat} {Q : State → Prop}
variable {cc : ByteArray} {pc : Nat} {ls : Array Slot} {rest st0 : List Value} {D : va_G} {K : List Nat} {cs : Nat → ClassId} {ad : Nat → Nat} {I : Mm} {A : Nat → Prop} {H0 : Heap} {a : Array Value} {mc ms : Nat} {sz : Nat}
theorem g_xblind {av : List Value} : FrameBlind (va_Pc av (wpreX K cs D ad I sz)) := fun a U g mk q => by
  have h1 := g_blind (K := K) (cs := cs) (D := D) (ad := ad) (I := I) (sz := sz) (av := av) a U g mk ⟨q.1, q.2.1⟩
  exact ⟨h1.1, h1.2, XW.same (u := U) rfl q.2.2⟩
theorem g_xpreS {As : List Value} (hP : va_P D vwCl (gw K cs ad I) H) (hD : va_D (gA K ad sz) (gw K cs ad I)) (hK : va_K D vwCl (tyA cs) s) (hN : NW s) (hX : XW (gA K ad sz) s s.heap) (hS : va_S (gA K ad sz) s.heap H locs) (hsz : s.heap.size = sz) : PreS s H (va_Pc As (wpreX K cs D ad I H.size)) As :=
  ⟨g_xblind, fun U hU hW => ⟨rfl, ((g_preS (As := As) hP hD hK hN).2 U hU hW).2, by
    have h1 := (hX.at hS).narrow (gA_sub (K := K) (ad := ad) (a := H.size) (b := sz) (by rw [← hsz]; exact hS.1))
    rw [hU]; exact XW.warm hW h1⟩⟩
theorem g_xpreV {As : List Value} {C : String} {b : Nat} (hP : va_P D vwCl (gw K cs ad I) H) (hD : va_D (gA K ad sz) (gw K cs ad I)) (hK : va_K D vwCl (tyA cs) s) (hN : NW s) (hX : XW (gA K ad sz) s s.heap) (hS : va_S (gA K ad sz) s.heap H locs) (hsz : s.heap.size = sz) {k κ ci : Nat} {fs : List Value} {q : vw_C} (hk : K.getD k 0 = κ) (h0 : κ ≠ 0) (he : cw cs κ (fun d => ad (k + d)) (I k) = .inr (ci, fs)) (hc : vwCl[ci]? = some q) (hq : q.1 = C) (hb : ad k = b) : PreV s H C b (va_Pc (.ref b :: As) (wpreX K cs D ad I H.size)) As := by
  have h1 := g_preV (As := As) hP hD hK hN hk h0 he hc hq hb
  exact ⟨g_xblind, h1.2.1, (g_xpreS (As := .ref b :: As) hP hD hK hN hX hS hsz).2⟩
/-- a throw of this method's own -/
theorem g_throw {own cls text : String} {names : List String} {ik is ic : Nat} {Ts : List Cond} {Qc : Array Value → State → Outcome → State → Prop} {thr : String → Prop} (hx : p.tables.exec = Jvm.exec) (hb : c.code = cc) (hl : l.stackTraces = false) (hown : s.vm.findClass own = some m.cls) (hcls : Bundle.fit cls = true) (hnames : ∀ n ∈ names, Bundle.fit n = true)
    (hk : (Cond.classLink own ik cls).before args s = true) (hini : (Cond.initialized cls).before args s = true) (ho : own = "SnowMaze") (hstr : (is, text) ∈ xStrs) (hN : NW s) (hgw : ∀ w ∈ (vx_atS own ic cls names).filter goodWord, w.before args s = true) (hbad : ∀ w ∈ (vx_atS own ic cls names).filter (fun w => !goodWord w), w ∈ nestWs)
    (hgood : ∀ w ∈ Cond.classLink own ik cls :: Cond.initialized cls :: vx_atS own ic cls names, vx_ot w = true) (hX : XW (gA K ad sz) s s.heap) (hS : va_S (gA K ad sz) s.heap H locs) (hP : va_P D vwCl (gw K cs ad I) H) (hD : va_D (gA K ad sz) (gw K cs ad I)) (hsize : ls.size = c.maxLocals)
    (d0 : decode cc pc = .ok (.new ik, 3)) (d3 : decode cc (pc + 3) = .ok (.dup, 1)) (d4 : decode cc (pc + 4) = .ok (.ldc is, 2)) (d6 : decode cc (pc + 6) = .ok (.invokespecial ic, 3)) (d9 : decode cc (pc + 9) = .ok (.athrow, 1)) (ht : ∀ x ∈ c.exceptionTable.toList, False)
    (hRf : names.length + 3 < R.frames) (hRl : (rest.map fun v => v.category).sum + (13 * (names.length + 1) + 43) ≤ R.locals) (hRc : cells + 1 ≤ R.cells) (hRs : slots + 6 ≤ R.slots) (hlocks : meth.locks = false) (hc : cells + 1 ≤ mc) (hs : slots + 6 ≤ ms) (hthr : thr cls) :
    W p l e R s m args below meth c H locs cells slots (vx_MQ below Qc (XC0 K cs D ad I sz thr) args s mc ms (gA K ad sz)) (F0 m pc ls rest) := by
  subst ho
  obtain ⟨sa, hsa⟩ := hX.2.2.1 _ hstr
  refine vx_throwS hx hb hl hown hcls hnames hk hini hsa (vx_hat hgw hbad (fun w hw => va_Nw.use (nest_on w hw) (hN w hw))) hgood hX.1 hX.2.1 hS hsize d0 d3 d4 d6 d9 (fun x hx => (ht x hx).elim) hRf hRl hRc hRs hlocks (fun t hv hz hk => ?_) hS.2.2 hc hs
  refine ⟨I, rfl, ⟨hthr, hP.kept (fun k q hq => hk q.1 ((hP k q hq).lt)), hD⟩, ⟨Nat.le_trans hS.1 hz, fun q h1 h2 => ?_⟩⟩
  rw [hk q (Nat.lt_of_lt_of_le h1 hS.1)]; exact hS.2.1 q h1 h2
end XROW

