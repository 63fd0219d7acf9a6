section LAWB
variable {X : State → Prop} {s : State} {H : Heap} {D : va_G} {cs : Nat → ClassId} {A : Nat → Prop} {ws : va_W} {sz : Nat}
theorem h_blind {av : List Value} : FrameBlind (va_Pc av (hpre ws cs D sz)) := fun a U g mk q => by
  have h1 := l_blind (X := TrX) (ws := ws) (cs := cs) (D := D) (sz := sz) (av := av) (fun _ _ _ h => h) a U g mk ⟨q.1, q.2.1, trivial⟩
  exact ⟨h1.1, h1.2.1, XW.same (u := U) rfl q.2.2⟩
theorem h_preS {As : List Value} (hP : va_P D vwCl ws H) (hD : va_D A ws) (hK : va_K D vwCl (tyA cs) s) (hN : NW s) (hX : XW A s H) (hf : ∀ q, va_A ws H.size q → A q) : PreS s H (va_Pc As (hpre ws cs D H.size)) As :=
  ⟨h_blind, fun U hU hW => ⟨rfl, ⟨by rw [hU], by rw [hU]; exact hP, va_K.moved hW.alike hK, hD.weaken (fun _ _ _ _ => trivial), NW.warm hW hN⟩, by rw [hU]; exact XW.warm hW (hX.narrow hf)⟩⟩
end LAWB
theorem M_keep {D : va_G} {cl : List vw_C} {cs : Nat → ClassId} {ad : Nat → Nat} {V : Mm} {X : va_W} {H H1 : Heap} (hap : Ap kM ad X) (hP : va_P D cl (gw kM cs ad V) H) (hk : ∀ q : Nat, q < H.size → ¬ va_A X H.size q → H1[q]? = H[q]?) : va_P D cl (gw kM cs ad V) H1 :=
  hP.kept (fun k x hx => hk x.1 ((hP k x hx).lt) (fun y => by
    rcases y with ⟨k', e, hk'⟩ | y
    · exact hap k' _ hk' k (gw_inv hx).1 (gw_inv hx).2
    · exact absurd ((hP k x hx).lt) (Nat.not_lt.mpr y)))
theorem Ap_lX {cs : Nat → ClassId} {ad adM : Nat → Nat} {I J : Mm} {qo : Nat} {o o' : Nat → Int64} (h : Ap kM adM (lX cs ad I qo o)) : Ap kM adM (lX cs ad J qo o') := fun j q hj i hi => by
  have h1 : ((lX cs ad J qo o').map (fun q => q.1))[j]? = some q.1 := by rw [List.getElem?_map, hj]; rfl
  rw [lX_fst, ← lX_fst cs ad I qo o, List.getElem?_map] at h1
  cases h2 : (lX cs ad I qo o)[j]? with
  | none => rw [h2] at h1; cases h1
  | some x =>
    rw [h2] at h1
    have e : x.1 = q.1 := Option.some.inj h1
    rw [← e]
    exact h j x h2 i hi
/-- a world of the model that has moved is apart from what was there -/
theorem Ap_new {cs : Nat → ClassId} {ad ad' : Nat → Nat} {V : Mm} {D : va_G} {cl : List vw_C} {X : va_W} {H : Heap} (hap : Ap kM ad X) (hP : va_P D cl X H) (hD : va_D (gA kM ad H.size) (gw kM cs ad' V)) : Ap kM ad' X := fun j q hj i hi e => by
  have h1 := hD.2 i _ (gw_get hi)
  rcases h1 with ⟨k, hk, e2⟩ | h1
  · exact hap j q hj k hk (e.trans e2)
  · have := (hP j q hj).lt
    have h2 : H.size ≤ q.1 := by rw [e]; exact h1
    omega
theorem Sm.symm {z z' : Nat} {J J' : Mm} (h : Sm z J z' J') : Sm z' J' z J := ⟨fun f a b => (h.1 f a b).symm, fun a ha c hc => (h.2.1 a ha c hc).symm, fun i hi => ⟨fun f hf => ((h.2.2 i hi).1 f hf).symm, fun j hj => ((h.2.2 i hi).2 j hj).symm⟩⟩
/-- what holds between the two objects -/
def LI (J V : Mm) (N : Nat) : Prop := IV J 1 N ∧ RX 1 J ∧ RX 26 J ∧ Rl 1 J 0 V N
theorem LI.of {J1 J' V : Mm} {N : Nat} (hF : FX 0 J1 J') (hI : IV J' 1 N) (hR : Rl 1 J' 0 V N) : LI J1 V N := ⟨hI.sm hF.sm, hF.2.1, hF.2.2, hR.sm hF.sm hI.1.2.1⟩
def LSt (D : va_G) (cs : Nat → ClassId) (adC adM : Nat → Nat) (qo mo : Nat) (A : Nat → Prop) (J V : Mm) (N : Nat) (o : Nat → Int64) (H : Heap) : Prop :=
  LI J V N ∧ va_P D vwCl (lX cs adC J qo o) H ∧ va_D A (lX cs adC J qo o) ∧ va_P D vwCl (gw kM cs adM V) H ∧ va_D A (gw kM cs adM V) ∧ Ap kM adM (lX cs adC J qo o) ∧ adM 0 = mo
def LCx (pg : Program) (l : Launch) (s : State) (m : MethodId) (c : Code) (D : va_G) (cs : Nat → ClassId) (A : Nat → Prop) (b L : Nat) (xs : Nat → Int32) : Prop :=
  pg.tables.exec = Jvm.exec ∧ c.code = cL_law ∧ c.maxLocals = 9 ∧ s.vm.findClass RL = some m.cls ∧ (∀ w ∈ wsL_law, w.before #[Value.ref b] s = true) ∧ va_X b L xs s s.heap ∧ b < s.heap.size ∧ ¬ A b ∧ va_K D vwCl (tyA cs) s ∧ NW s ∧ XW A s s.heap ∧ kAO s ∧ (∀ q, s.heap.size ≤ q → A q) ∧ L ≤ 2560 ∧ l.stackTraces = false
theorem rc {n : Nat} (h : n ≤ 100000) : n ≤ room_1.cells := Nat.le_trans h (Nat.le_of_ble_eq_true rfl)
theorem rs {n : Nat} (h : n ≤ 1000000) : n ≤ room_1.slots := Nat.le_trans h (Nat.le_of_ble_eq_true rfl)
theorem cmp_self (x : Int64) : lg_cmp x x = 0 := by simp [lg_cmp]
theorem nz {t : Nat} (h3 : t ≤ 3) (h : ¬ t = 0) : ¬ nI t = 0 := by
  rcases (show t = 0 ∨ t = 1 ∨ t = 2 ∨ t = 3 from by omega) with rfl | rfl | rfl | rfl
  · exact absurd rfl h
  · decide
  · decide
  · decide
section LROW
variable {p : Program} {l : Launch} {e : Env} {R : Room} {s : State} {m : MethodId} {args : Array Value} {below : List Frame} {meth : Method} {c : Code} {H : Heap} {locs : List Loc} {cells slots : Nat} {Q : State → Prop}
variable {cc : ByteArray} {pc : Nat} {ls : Array Slot} {rest st0 : List Value} {D : va_G} {K : List Nat} {cs : Nat → ClassId} {ad : Nat → Nat} {I : Mm} {A : Nat → Prop} {H0 : Heap} {a : Array Value} {mc ms : Nat} {ws : va_W}
theorem r_sld (hexec : p.tables.exec = Jvm.exec) (hb : c.code = cc) {b L : Nat} {xs : Nat → Int32} (hX : va_X b L xs s H0) (hbl : b < H0.size) (hbA : ¬ A b) (hS : va_S A H0 H locs) (hL : L ≤ 2560) {j : Nat} (hj : j < L) (hdg : decode cc pc = .ok (.iaload, 1))
    (kk : W p l e R s m args below meth c H locs cells slots Q (F0 m (pc + 1) ls (.int (xs j) :: rest))) : W p l e R s m args below meth c H locs cells slots Q (F0 m pc ls (.int (nI j) :: .ref b :: rest)) :=
  va_sld hexec hb hX hbl hbA hS (vp_in_nI hj (by omega)) hdg (by rw [nI_clamp (by omega)]; exact kk)
theorem g_calliK {post : Int32 → Mm → Prop} (hPK : va_P D vwCl ws H) (hap : Ap K ad ws) (hD : va_D A (gw K cs ad I)) (hS : va_S A H0 H locs) (hA : ∀ q, H0.size ≤ q → A q) (hr : va_Run p l e R s m args below meth c H locs cells slots mc ms (F0 m pc ls st0) rest (va_Qi post (wat K cs D ad (gA K ad H.size)) (gA K ad H.size) a) (gA K ad H.size))
    (kk : ∀ (r : Int32) (u : Mm) (H1 : Heap) (locs1 : List Loc), post r u → va_P D vwCl ws H1 → va_P D vwCl (gw K cs ad u) H1 → va_D A (gw K cs ad u) → va_S A H0 H1 locs1 → W p l e R s m args below meth c H1 locs1 (cells + mc) (slots + ms) Q (F0 m (pc + 3) ls (.int r :: rest))) : W p l e R s m args below meth c H locs cells slots Q (F0 m pc ls st0) :=
  va_calli hr hS (fun q _ h => gA_free hD hS hA q h) (gA_free hD hS hA) (fun r u t H1 locs1 ht hvm hw hB hz1 hk1 hS1 => kk r u H1 locs1 hw (hap.keep hPK hk1) (by rw [← ht]; exact hB.1) (hB.2.weaken (fun _ _ _ h => gA_free hD hS hA _ h)) hS1)
theorem g_calldK {post : UInt64 → Mm → Prop} (hPK : va_P D vwCl ws H) (hap : Ap K ad ws) (hD : va_D A (gw K cs ad I)) (hS : va_S A H0 H locs) (hA : ∀ q, H0.size ≤ q → A q) (hr : va_Run p l e R s m args below meth c H locs cells slots mc ms (F0 m pc ls st0) rest (va_Qd post (wat K cs D ad (gA K ad H.size)) (gA K ad H.size) a) (gA K ad H.size))
    (kk : ∀ (r : UInt64) (u : Mm) (H1 : Heap) (locs1 : List Loc), post r u → va_P D vwCl ws H1 → va_P D vwCl (gw K cs ad u) H1 → va_D A (gw K cs ad u) → va_S A H0 H1 locs1 → W p l e R s m args below meth c H1 locs1 (cells + mc) (slots + ms) Q (F0 m (pc + 3) ls (.double r :: rest))) : W p l e R s m args below meth c H locs cells slots Q (F0 m pc ls st0) :=
  va_calld hr hS (fun q _ h => gA_free hD hS hA q h) (gA_free hD hS hA) (fun r u t H1 locs1 ht hvm hw hB hz1 hk1 hS1 => kk r u H1 locs1 hw (hap.keep hPK hk1) (by rw [← ht]; exact hB.1) (hB.2.weaken (fun _ _ _ h => gA_free hD hS hA _ h)) hS1)
theorem g_calllK {post : Int64 → Mm → Prop} (hPK : va_P D vwCl ws H) (hap : Ap K ad ws) (hD : va_D A (gw K cs ad I)) (hS : va_S A H0 H locs) (hA : ∀ q, H0.size ≤ q → A q) (hr : va_Run p l e R s m args below meth c H locs cells slots mc ms (F0 m pc ls st0) rest (va_Ql post (wat K cs D ad (gA K ad H.size)) (gA K ad H.size) a) (gA K ad H.size))
    (kk : ∀ (r : Int64) (u : Mm) (H1 : Heap) (locs1 : List Loc), post r u → va_P D vwCl ws H1 → va_P D vwCl (gw K cs ad u) H1 → va_D A (gw K cs ad u) → va_S A H0 H1 locs1 → W p l e R s m args below meth c H1 locs1 (cells + mc) (slots + ms) Q (F0 m (pc + 3) ls (.long r :: rest))) : W p l e R s m args below meth c H locs cells slots Q (F0 m pc ls st0) :=
  va_calll hr hS (fun q _ h => gA_free hD hS hA q h) (gA_free hD hS hA) (fun r u t H1 locs1 ht hvm hw hB hz1 hk1 hS1 => kk r u H1 locs1 hw (hap.keep hPK hk1) (by rw [← ht]; exact hB.1) (hB.2.weaken (fun _ _ _ h => gA_free hD hS hA _ h)) hS1)
/-- meet, foresee: the model's rows may move -/
theorem g_calliE {post : Int32 → (Nat → Nat) × Mm → Prop} (hPK : va_P D vwCl ws H) (hap : Ap kM ad ws) (hD : va_D A (gw kM cs ad I)) (hS : va_S A H0 H locs) (hA : ∀ q, H0.size ≤ q → A q) (hr : va_Run p l e R s m args below meth c H locs cells slots mc ms (F0 m pc ls st0) rest (va_Qi post (watE cs D (gA kM ad H.size)) (gA kM ad H.size) a) (gA kM ad H.size))
    (kk : ∀ (r : Int32) (u : (Nat → Nat) × Mm) (H1 : Heap) (locs1 : List Loc), post r u → va_P D vwCl ws H1 → va_P D vwCl (gw kM cs u.1 u.2) H1 → va_D A (gw kM cs u.1 u.2) → Ap kM u.1 ws → va_S A H0 H1 locs1 → W p l e R s m args below meth c H1 locs1 (cells + mc) (slots + ms) Q (F0 m (pc + 3) ls (.int r :: rest))) : W p l e R s m args below meth c H locs cells slots Q (F0 m pc ls st0) :=
  va_calli hr hS (fun q _ h => gA_free hD hS hA q h) (gA_free hD hS hA) (fun r u t H1 locs1 ht hvm hw hB hz1 hk1 hS1 => kk r u H1 locs1 hw (hap.keep hPK hk1) (by rw [← ht]; exact hB.1) (hB.2.weaken (fun _ _ _ h => gA_free hD hS hA _ h)) (Ap_new hap hPK hB.2) hS1)
end LROW
section BOUNDS
variable {N : Nat} {J : Mm} {a b c0 d : Int32} {z : Nat}
theorem b_place : th_X5_placeOf a b ≤ 3 := by rcases place_01 a b with h | h <;> rw [h] <;> decide
theorem b_mem (q : Nat) : th_X5_member q a N ≤ 3 := by rcases lc_mem (a := a) (N := N) q with h | h <;> rw [h] <;> decide
theorem b_lay : thZ_lay J z N a b c0 ≤ 3 := by
  simp only [thZ_lay]
  repeat' split
  all_goals first | decide | exact b_place
theorem b_come : thZ_come J z N a b c0 d ≤ 3 := by
  simp only [thZ_come]
  repeat' split
  all_goals first | decide | exact b_place
theorem b_order : thZ_order J z N a b c0 ≤ 3 := by
  simp only [thZ_order]
  repeat' split
  all_goals first | decide | exact b_mem 0
theorem b_cell : thZ_cell a b c0 ≤ 3 := by rcases r_cell (a := a) (b := b) (c0 := c0) with h | h <;> rw [h] <;> decide
theorem b_tun : thZ_tun N a b ≤ 3 := by rcases r_tun (a := a) (b := b) (N := N) with h | h <;> rw [h] <;> decide
theorem b_pass : thZ_pass a ≤ 3 := by
  simp only [thZ_pass]
  split <;> decide
theorem b_in {n : Nat} : thZ_in a n 1 ≤ 3 := by rcases lc_in (a := a) (n := n) (t := 1) with h | h <;> rw [h] <;> decide
theorem b_two : thZ_two a b c0 d ≤ 3 := by rcases r_two (a := a) (b := b) (c0 := c0) (d := d) with h | h <;> rw [h] <;> decide
theorem b_meet : thZ_meet N a b c0 ≤ 3 := by rcases r_meet (a := a) (b := b) (c0 := c0) (N := N) with h | h | h <;> rw [h] <;> decide
theorem b_fs : thZ_fs a b ≤ 3 := by
  simp only [thZ_fs]
  repeat' split
  all_goals decide
end BOUNDS
/-! the same answer, where a property tells it -/
theorem DI_one {op S : Nat → Prop} {mx c : Nat} {x y : Int32} (h : DI op S mx c x) (h2 : DI op S mx c y) : x = y := by
  rcases h with ⟨h, hn⟩ | ⟨d, hd, h, hr, hl⟩
  · rcases h2 with ⟨h2, _⟩ | ⟨d, hd, h2, hr, hl⟩
    · rw [h, h2]
    · exact absurd hr (hn d hd)
  · rcases h2 with ⟨h2, hn⟩ | ⟨d', hd', h2, hr', hl'⟩
    · exact absurd hr (hn d hd)
    · have : d = d' := by
        rcases Nat.lt_trichotomy d d' with y | y | y
        · exact absurd hr (hl' d y)
        · exact y
        · exact absurd hr' (hl d' y)
      rw [h, h2, this]
theorem way_one {J : Mm} {z a b : Nat} {x y : Int32} (h : wayF J z a b x) (h2 : wayF J z a b y) : x = y := by
  rcases h with ⟨n, h⟩ | ⟨n, h⟩
  · rcases h2 with ⟨_, h2⟩ | ⟨n2, _⟩
    · rw [h, h2]
    · exact absurd n2 n
  · rcases h2 with ⟨n2, _⟩ | ⟨_, h2⟩
    · exact absurd n n2
    · exact DI_one h h2
theorem dig_one {hd : Nat → Nat} {fr to : Nat} {x y : Int32} (h : DSr hd fr to x) (h2 : DSr hd fr to y) : x = y := by
  rcases h with ⟨h, n⟩ | ⟨v, _, h, ⟨d, hd1⟩, hl⟩
  · rcases h2 with ⟨h2, _⟩ | ⟨v, _, h2, ⟨d, hd1⟩, _⟩
    · rw [h, h2]
    · exact absurd hd1 (n d v)
  · rcases h2 with ⟨_, n⟩ | ⟨v', _, h2, ⟨d', hd2⟩, hl'⟩
    · exact absurd hd1 (n d v)
    · have h3 := hl d' v' hd2
      have h4 := hl' d v hd1
      rw [h, h2, show v = v' from by omega]
theorem meet_one {tog : Nat → Prop} {t : Nat} {x y : Int32} (h : mtS tog t x) (h2 : mtS tog t y) : x = y := by
  rcases h with ⟨i, hi, h, hn, e⟩ | ⟨hn, e⟩
  · rcases h2 with ⟨j, hj, h2, hn2, e2⟩ | ⟨hn2, e2⟩
    · have : i = j := by
        rcases Nat.lt_trichotomy i j with y | y | y
        · exact absurd h (hn2 i y)
        · exact y
        · exact absurd h2 (hn j y)
      rw [e, e2, this]
    · exact absurd h (hn2 i hi)
  · rcases h2 with ⟨j, hj, h2, _, _⟩ | ⟨_, e2⟩
    · exact absurd h2 (hn j hj)
    · rw [e, e2]
theorem IV.pass {J : Mm} {N : Nat} (h : IV J 1 N) (a : Int32) : IV (mZ_pass J 1 N a) 1 N := by
  simp only [mZ_pass]
  split
  · exact h.tkI _
  · exact h
/-- the hardness of each cell, as numbers -/
theorem IV.hard {J : Mm} {N : Nat} (h : IV J 1 N) : ∃ hd : Nat → Nat, ∀ c, c < 256 → hd c ≤ 10 ∧ J (1 + 1 + 1) c = nI (hd c) := by
  refine ⟨fun c => (J (1 + 1 + 1) c).toNatClampNeg, fun c hc => ?_⟩
  obtain ⟨x, h1, h2⟩ := h.2.1 c hc
  have h3 : J (1 + 1 + 1) c = nI x := h2
  show (J (1 + 1 + 1) c).toNatClampNeg ≤ 10 ∧ J (1 + 1 + 1) c = nI (J (1 + 1 + 1) c).toNatClampNeg
  rw [h3, nI_clamp (by omega)]
  exact ⟨h1, rfl⟩

