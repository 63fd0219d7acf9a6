noncomputable def cd (P : Prop) : Bool := @decide P (Classical.propDecidable P)
theorem cd_t {P : Prop} (h : P) : cd P = true := by unfold cd; exact @decide_eq_true P (Classical.propDecidable P) h
theorem cd_f {P : Prop} (h : ¬ P) : cd P = false := by unfold cd; exact @decide_eq_false P (Classical.propDecidable P) h
theorem cd_i {P : Prop} : cd P = true ↔ P := ⟨fun h => Classical.byContradiction (fun z => by rw [cd_f z] at h; cases h), cd_t⟩
/-- what stands where one is reached by so many steps at most -/
def DI (op src : Nat → Prop) (mo c : Nat) (v : Int32) : Prop := (v = -1 ∧ ∀ d, d ≤ mo → ¬ rch op src d c) ∨ (∃ d, d ≤ mo ∧ v = nI d ∧ rch op src d c ∧ ∀ d', d' < d → ¬ rch op src d' c)
theorem sp_reach {I : Mm} {k t mo nx n0 : Nat} {q0 : Nat → Nat} {n : Nat} {q dv : Nat → Nat} {w : Nat} {u : Mm} (h : SP I k t mo nx n0 q0 n n q dv w u) : ∀ (d c : Nat), d ≤ mo → c < 256 → rch (opS I t nx q0) (srS nx n0 q0) d c → ∃ j, nx ≤ j ∧ j < n ∧ q j = c ∧ dv j ≤ d
  | 0, c, _, _, hr => by
    obtain ⟨j, h1, h2, h3⟩ := hr
    exact ⟨j, h1, Nat.lt_of_lt_of_le h2 h.1.2.2.2.2.1, by rw [h.2.1.2.1 j h2, h3], by rw [h.2.2.2.1 j h1 h2]; exact Nat.le_refl _⟩
  | d + 1, c, hd, hc, hr => by
    rcases hr with hr | ⟨ho, p, w', hp, hw, hb, hr⟩
    · obtain ⟨j, h1, h2, h3, h4⟩ := sp_reach h d c (by omega) hc hr
      exact ⟨j, h1, h2, h3, by omega⟩
    · obtain ⟨i, h1, h2, h3, h4⟩ := sp_reach h d p (by omega) hp hr
      subst h3
      obtain ⟨j, g1, g2, g3⟩ := h.2.2.2.2.2.2.1 i h1 h2 (by omega) w' hw (by omega) (by rw [hb]; exact ho.1)
      rw [hb] at g2
      rcases Nat.lt_or_ge j nx with z | z
      · exact absurd (by rw [← h.2.1.2.1 j (Nat.lt_of_lt_of_le z h.1.2.2.2.2.2)]; exact g2) (ho.2 j z)
      · exact ⟨j, z, g1, g2, by have := g3 z; omega⟩
theorem sp_fin {I : Mm} {k t mo nx n0 : Nat} {q0 : Nat → Nat} {n : Nat} {q dv : Nat → Nat} {w : Nat} {u : Mm} (h : SP I k t mo nx n0 q0 n n q dv w u) {c : Nat} (hc : c < 256) (hb : ∀ j, j < nx → q0 j ≠ c) : DI (opS I t nx q0) (srS nx n0 q0) mo c (u (k + 1) c) := by
  have hR := h.1.1
  by_cases hm : u (k + 1) c = -1
  · refine Or.inl ⟨hm, fun d hd hr => ?_⟩
    obtain ⟨j, h1, h2, h3, -⟩ := sp_reach h d c hd hc hr
    exact hR.2.2.2.2.1 j h2 (by rw [h3]; exact hm)
  · obtain ⟨j, h1, h2⟩ := hR.2.2.2.2.2.1 c hc hm
    have hj : nx ≤ j := by
      rcases Nat.lt_or_ge j nx with z | z
      · exact absurd (by rw [← h.2.1.2.1 j (Nat.lt_of_lt_of_le z h.1.2.2.2.2.2)]; exact h2) (hb j z)
      · exact z
    have a3 := h.2.2.1 j hj h1
    rw [h2] at a3
    refine Or.inr ⟨dv j, a3.2.2.1, a3.1, a3.2.2.2, fun d' hd' hr => ?_⟩
    obtain ⟨i, g1, g2, g3, g4⟩ := sp_reach h d' c (by omega) hc hr
    have b3 := h.2.2.1 i g1 g2
    rw [g3] at b3
    have hn := hR.1
    have e : dv j = dv i := (nI_eq (by omega) (by omega)).mp (a3.1.symm.trans b3.1)
    omega
theorem rch_cg {op op' src src' : Nat → Prop} (ho : ∀ c, c < 256 → (op c ↔ op' c)) (hs : ∀ c, c < 256 → (src c ↔ src' c)) : ∀ (d c : Nat), c < 256 → (rch op src d c ↔ rch op' src' d c)
  | 0, c, hc => hs c hc
  | d + 1, c, hc => by
    constructor
    · rintro (h | ⟨h, p, w, hp, hw, hb, hr⟩)
      · exact Or.inl ((rch_cg ho hs d c hc).mp h)
      · exact Or.inr ⟨(ho c hc).mp h, p, w, hp, hw, hb, (rch_cg ho hs d p hp).mp hr⟩
    · rintro (h | ⟨h, p, w, hp, hw, hb, hr⟩)
      · exact Or.inl ((rch_cg ho hs d c hc).mpr h)
      · exact Or.inr ⟨(ho c hc).mpr h, p, w, hp, hw, hb, (rch_cg ho hs d p hp).mpr hr⟩
theorem DI_ne {op src : Nat → Prop} {mo c : Nat} {v : Int32} (h : DI op src mo c v) (hmo : mo < 2 ^ 31) : v ≠ -1 ↔ rch op src mo c := by
  rcases h with ⟨h1, h2⟩ | ⟨d, h1, h2, h3, h4⟩
  · exact ⟨fun z => absurd h1 z, fun z => absurd z (h2 mo (Nat.le_refl _))⟩
  · exact ⟨fun _ => rch_le h1 h3, fun _ => by rw [h2]; exact nI_m1 (by omega)⟩
theorem DI_cg {op op' src src' : Nat → Prop} (ho : ∀ c, c < 256 → (op c ↔ op' c)) (hs : ∀ c, c < 256 → (src c ↔ src' c)) {mo c : Nat} {v : Int32} (hc : c < 256) (h : DI op src mo c v) : DI op' src' mo c v := by
  rcases h with ⟨h1, h2⟩ | ⟨d, h1, h2, h3, h4⟩
  · exact Or.inl ⟨h1, fun d hd hr => h2 d hd ((rch_cg ho hs d c hc).mpr hr)⟩
  · exact Or.inr ⟨d, h1, h2, (rch_cg ho hs d c hc).mp h3, fun d' hd hr => h4 d' hd ((rch_cg ho hs d' c hc).mpr hr)⟩
/-- the same but for the cells of Reach -/
def EqX (z : Nat) (u v : Mm) : Prop := ∀ a, a ≠ z + 5 → a ≠ z + 5 + 1 → a ≠ z + 5 + 2 → u a = v a
theorem EqX.rf (z : Nat) (u : Mm) : EqX z u u := fun _ _ _ _ => rfl
theorem EqX.tr {z : Nat} {u v w : Mm} (h : EqX z u v) (h2 : EqX z v w) : EqX z u w := fun a h1 h3 h4 => (h a h1 h3 h4).trans (h2 a h1 h3 h4)
theorem EqX.sy {z : Nat} {u v : Mm} (h : EqX z u v) : EqX z v u := fun a h1 h3 h4 => (h a h1 h3 h4).symm
theorem EqX.wr {z : Nat} {u v : Mm} (h : EqX z u v) (k j : Nat) (x : Int32) (hk : k ≠ z + 5 ∧ k ≠ z + 5 + 1 ∧ k ≠ z + 5 + 2) : EqX z (wr u k j x) (wr v k j x) := by
  intro a h1 h2 h3
  by_cases e : a = k
  · subst e
    show wrA u a (upd (u a) j x) a = wrA v a (upd (v a) j x) a
    rw [wrA_s, wrA_s, h a h1 h2 h3]
  · rw [wr_n _ _ _ e, wr_n _ _ _ e]; exact h a h1 h2 h3
theorem RQ.eq {u v : Mm} {k n : Nat} {q : Nat → Nat} (h : RQ u k n q) (h0 : v k 2 = u k 2) (h1 : v (k + 1) = u (k + 1)) (h2 : v (k + 2) = u (k + 2)) : RQ v k n q := by
  obtain ⟨a, b, c, d, e, f, g⟩ := h
  exact ⟨a, h0.trans b, c, by rw [h2]; exact d, by rw [h1]; exact e, by rw [h1]; exact f, by rw [h1]; exact g⟩
def WZ (I : Mm) (z N : Nat) : Prop := I z 3 = nI N ∧ N ≤ 8 ∧ (∃ n q, RQ I (z + 5) n q) ∧ ∀ i, i < N → ∃ p, p < 256 ∧ I (z + 8 + (1 + i)) 0 = nI p
def opn (I : Mm) (z c : Nat) : Prop := I (z + 1 + 1) c = 0
def srL (I : Mm) (z N c : Nat) : Prop := ∃ i, i < N ∧ I (z + 8 + (1 + i)) 4 = 0 ∧ 0 < I (z + 8 + (1 + i)) 3 ∧ I (z + 8 + (1 + i)) 0 = nI c
def srH (I : Mm) (z N c : Nat) : Prop := c < N ∧ 0 < I (z + 1 + 3) c
def LtP (I : Mm) (z N : Nat) (u : Mm) : Prop := EqX z u I ∧ (∃ n q, RQ u (z + 5) n q) ∧ ∀ c, c < 256 → (u (z + 5 + 1) c ≠ -1 ↔ rch (opn I z) (srL I z N) 3 c)
def HdP (I : Mm) (z : Nat) (u : Mm) : Prop := EqX z u I ∧ (∃ n q, RQ u (z + 5) n q) ∧ ∀ c, c < 256 → (u (z + 5 + 1) c ≠ -1 ↔ rch (opn I z) (srH I z 256) 2 c)
/-- the sources laid into the queue -/
def SI (I : Mm) (z : Nat) (S : Nat → Prop) (n : Nat) (q : Nat → Nat) (v : Mm) : Prop := RQ v (z + 5) n q ∧ v (z + 5) 3 = nI 0 ∧ EqX z v I ∧ (∀ j, j < n → v (z + 5 + 1) (q j) = nI 0) ∧ ∀ c, c < 256 → ((∃ j, j < n ∧ q j = c) ↔ S c)
theorem clear_eqx (I : Mm) (z : Nat) : EqX z (m_X1_clear I (z + 5)) I := by
  intro a h1 h2 h3
  simp only [m_X1_clear]
  rw [wr_n _ _ _ h1, wr_n _ _ _ h1, wrA_n _ _ h2]
theorem si_0 (I : Mm) (z : Nat) (q : Nat → Nat) {S : Nat → Prop} (hS : ∀ c, ¬ S c) : SI I z S 0 q (m_X1_clear I (z + 5)) :=
  ⟨clear_RQ I (z + 5) q, by simp only [m_X1_clear]; exact wr_ss _ _ _ _, clear_eqx I z, fun j hj => absurd hj (Nat.not_lt_zero _), fun c _ => ⟨fun h => (h.elim fun j hj => absurd hj.1 (Nat.not_lt_zero _)), fun h => absurd h (hS c)⟩⟩
theorem si_add {I : Mm} {z : Nat} {S S' : Nat → Prop} {n : Nat} {q : Nat → Nat} {v : Mm} (h : SI I z S n q v) {c : Nat} (hc : c < 256) (hS : ∀ x, S' x ↔ S x ∨ x = c) : ∃ n2 q2, SI I z S' n2 q2 (m_X1_add v (z + 5) (nI c) (nI 0) n) := by
  obtain ⟨hR, h3, hE, hs, hq⟩ := h
  by_cases hm : v (z + 5 + 1) c = -1
  · obtain ⟨hn, hR2, hd⟩ := RQ_add (v := nI 0) hR hc hm (nI_m1 (by decide))
    have e := add_new (v := nI 0) hc hm hn
    refine ⟨n + 1, _, hR2, ?_, ?_, fun j hj => ?_, fun x hx => ?_⟩
    · rw [e, wr_sn _ _ _ (by omega), wr_n _ _ _ (by omega), wr_n _ _ _ (by omega)]; exact h3
    · intro a g1 g2 g3
      rw [e, wr_n _ _ _ g1, wr_n _ _ _ g3, wr_n _ _ _ g2]; exact hE a g1 g2 g3
    · try dsimp only
      rw [e, wr_n _ _ _ (by omega), wr_n _ _ _ (by omega)]
      by_cases ej : j = n
      · rw [if_pos ej, wr_ss]
      · rw [if_neg ej, wr_sn _ _ _ (hd j (by omega))]; exact hs j (by omega)
    · try dsimp only
      rw [hS x, ← hq x hx]
      constructor
      · rintro ⟨j, g1, g2⟩
        by_cases ej : j = n
        · rw [if_pos ej] at g2; exact Or.inr g2.symm
        · rw [if_neg ej] at g2; exact Or.inl ⟨j, by omega, g2⟩
      · rintro (⟨j, g1, g2⟩ | g)
        · exact ⟨j, by omega, by rw [if_neg (by omega)]; exact g2⟩
        · exact ⟨n, by omega, by rw [if_pos rfl, g]⟩
  · rw [add_old hc hm]
    refine ⟨n, q, hR, h3, hE, hs, fun x hx => ?_⟩
    rw [hS x, hq x hx]
    refine ⟨Or.inl, fun g => g.elim id fun g => ?_⟩
    subst g
    exact (hq x hx).mp (hR.2.2.2.2.2.1 x hx hm)
theorem si_cg {I : Mm} {z : Nat} {S S' : Nat → Prop} {n : Nat} {q : Nat → Nat} {v : Mm} (h : SI I z S n q v) (hS : ∀ x, S' x ↔ S x) : SI I z S' n q v := by
  obtain ⟨a, b, c, d, e⟩ := h
  exact ⟨a, b, c, d, fun x hx => (e x hx).trans (hS x).symm⟩
theorem si_sp {I : Mm} {z mo : Nat} {S : Nat → Prop} {n : Nat} {q : Nat → Nat} {v : Mm} (h : SI I z S n q v) : SP v (z + 5) (z + 1) mo 0 n q 0 n q (fun _ => 0) 0 v :=
  sp_init h.1 h.2.1 (Nat.zero_le _) (fun j _ hj => h.2.2.2.1 j hj)
theorem si_di {I : Mm} {z mo : Nat} {S : Nat → Prop} {n n2 : Nat} {q q2 dv : Nat → Nat} {v u : Mm} (h : SI I z S n q v) (hs : SP v (z + 5) (z + 1) mo 0 n q n2 n2 q2 dv 0 u) : EqX z u I ∧ (∃ n q, RQ u (z + 5) n q) ∧ ∀ c, c < 256 → DI (opn I z) S mo c (u (z + 5 + 1) c) := by
  refine ⟨EqX.tr hs.2.1.1 h.2.2.1, ⟨n2, q2, hs.1.1⟩, fun c hc => DI_cg (fun c hc => ?_) (fun c hc => ?_) hc (sp_fin hs hc (fun j hj => absurd hj (Nat.not_lt_zero _)))⟩
  · rw [opS, opn, h.2.2.1 (z + 1 + 1) (by omega) (by omega) (by omega)]
    exact ⟨fun y => y.1, fun y => ⟨y, fun j hj => absurd hj (Nat.not_lt_zero _)⟩⟩
  · rw [← h.2.2.2.2 c hc, srS]
    exact ⟨fun ⟨j, _, y⟩ => ⟨j, y⟩, fun ⟨j, y⟩ => ⟨j, Nat.zero_le _, y⟩⟩

theorem vT {I v : Mm} {z i : Nat} (h : EqX z v I) : v (z + 8 + (1 + i)) = I (z + 8 + (1 + i)) := h _ (by omega) (by omega) (by omega)
theorem srL_y {I : Mm} {z i p : Nat} (h1 : I (z + 8 + (1 + i)) 4 = 0) (h2 : 0 < I (z + 8 + (1 + i)) 3) (h3 : I (z + 8 + (1 + i)) 0 = nI p) (hp : p < 256) : ∀ x, (x < 256 ∧ srL I z (i + 1) x) ↔ (x < 256 ∧ srL I z i x) ∨ x = p := by
  intro x
  constructor
  · rintro ⟨hx, j, g1, g2, g3, g4⟩
    by_cases e : j = i
    · subst e
      exact Or.inr ((nI_eq (by omega) (by omega)).mp (g4.symm.trans h3))
    · exact Or.inl ⟨hx, j, by omega, g2, g3, g4⟩
  · rintro (⟨hx, j, g1, g2⟩ | g)
    · exact ⟨hx, j, by omega, g2⟩
    · subst g; exact ⟨hp, i, by omega, h1, h2, h3⟩
theorem srL_n {I : Mm} {z i : Nat} (h : ¬ (I (z + 8 + (1 + i)) 4 = 0 ∧ 0 < I (z + 8 + (1 + i)) 3)) : ∀ x, (x < 256 ∧ srL I z (i + 1) x) ↔ (x < 256 ∧ srL I z i x) := by
  intro x
  constructor
  · rintro ⟨hx, j, g1, g2, g3, g4⟩
    by_cases e : j = i
    · subst e; exact absurd ⟨g2, g3⟩ h
    · exact ⟨hx, j, by omega, g2, g3, g4⟩
  · rintro ⟨hx, j, g1, g2⟩
    exact ⟨hx, j, by omega, g2⟩
theorem srH_y {I : Mm} {z i : Nat} (h : 0 < I (z + 1 + 3) i) : ∀ x, srH I z (i + 1) x ↔ srH I z i x ∨ x = i := by
  intro x
  constructor
  · rintro ⟨h1, h2⟩
    by_cases e : x = i
    · exact Or.inr e
    · exact Or.inl ⟨by omega, h2⟩
  · rintro (⟨h1, h2⟩ | g)
    · exact ⟨by omega, h2⟩
    · subst g; exact ⟨by omega, h⟩
theorem srH_n {I : Mm} {z i : Nat} (h : ¬ 0 < I (z + 1 + 3) i) : ∀ x, srH I z (i + 1) x ↔ srH I z i x := by
  intro x
  constructor
  · rintro ⟨h1, h2⟩
    by_cases e : x = i
    · subst e; exact absurd h2 h
    · exact ⟨by omega, h2⟩
  · rintro ⟨h1, h2⟩
    exact ⟨by omega, h2⟩
theorem posts_in {I : Mm} {k c : Nat} (hc : c < 256) : f_X3_postsAt I k (nI c) = I (k + 3) c := by
  simp only [f_X3_postsAt]
  rw [if_neg (nI_pos (by omega)), if_neg (fun z => absurd ((nI_leI (by decide) (by omega)).mp z) (by omega)), nI_clamp (by omega)]
theorem not_le_z {x : Int32} (h : ¬ x ≤ 0) : 0 < x := Int32.not_le.mp h
theorem not_lt_z {x : Int32} (h : x ≤ 0) : ¬ 0 < x := Int32.not_lt.mpr h

set_option maxHeartbeats 4000000 in
set_option maxRecDepth 100000 in
theorem c_X0_findLight (l : Launch) (D : va_G) (cs : Nat → ClassId) (ad : Nat → Nat) (I : Mm) (sz : Nat) (z : Nat) (hz : kC.getD z 0 = 2) (N : Nat) (hw : WZ I z N) : MetN l yX0_findLight wsX0_findLight ({ frames := 2, cells := 0, slots := 0, locals := 49 }) kC cs D ad I sz [.ref (ad z)] (fun u => LtP I z N u) 0 0 := by
  refine g_met (cc := cX0_findLight) (maxL := 2) (ret := none) (by decide) rfl (Nat.le_of_ble_eq_true rfl) ?_
  intro pg e s m args below meth c ls hx hb hr hml hts hown hlocks hsz hP hD hK hN hS hA hl
  have hown : s.vm.findClass RX0 = some m.cls := hown
  have hl : lv_has ls 2 [(0, .ref (ad z))] := hl
  obtain ⟨hN3, hN8, ⟨n0, q0, hq0⟩, hpl⟩ := id hw
  refine lv_aload_n hx hb dX0_findLight_0 rfl (lv_at hl 0 rfl) ?_
  refine g_get (κ := 2) (ci := 0) (v := .ref (ad (z + 5))) (C := RX0) (T := TX0) (N := 7) hx hb hts hown hK hP (k := z) hz (by decide) rfl (fun _ h => List.mem_cons_of_mem _ (List.mem_append_left _ (List.mem_append_left _ (List.mem_append_left _ (List.mem_append_right _ h))))) rfl 1 (by decide) (hts _ (List.mem_of_getElem? (i := 1) rfl)) (fun _ h9 => h9) rfl dX0_findLight_1 ?_
  refine g_callM (M := m_X1_clear I (z + 5)) hD hS hA (va_runV (As := []) (rest := []) ⟨hx, hb, hml, hown, hts⟩ (c_X1_clear l D cs ad I s.heap.size (z + 5) (kd_2_1 hz) n0 q0 hq0) (cwV 0 hts gX0_findLight_X1_clear rfl rfl rfl (by decide +kernel) ⟨Nat.le_of_ble_eq_true rfl, Nat.le_of_ble_eq_true rfl⟩) (g_preV hP hD hK hN (k := (z + 5)) (kd_2_1 hz) (by decide) rfl rfl rfl rfl) rfl rfl hl.1 rfl (lv_room (Nat.le_of_ble_eq_true rfl)) dX0_findLight_4 ⟨Nat.le_of_ble_eq_true rfl, Nat.le_of_ble_eq_true rfl⟩) (fun u1 H locs hu1 hP hD hS => ?_)
  refine lv_iconst (v := nI 0) hx hb dX0_findLight_7 (by decide) ?_
  refine lv_istore_n (lv' := [(1, .int (nI 0)), (0, .ref (ad z))]) hx hb dX0_findLight_8 rfl hl (by decide) rfl (fun ls hl => ?_)
  suffices KL9 : ∀ (fuel : Nat) (i : Nat) (n : Nat) (q : Nat → Nat) (v : Mm) (H : Heap) (locs : List Loc) (ls : Array Slot), (i ≤ N) → (SI I z (fun c => c < 256 ∧ srL I z i c) n q v) → N - i < fuel → va_P D vwCl (gw kC cs ad v) H → va_D (gA kC ad sz) (gw kC cs ad v) → va_S (gA kC ad sz) s.heap H locs → lv_has ls 2 [(1, .int (nI i)), (0, .ref (ad z))] → W pg l e ({ frames := 2, cells := 0, slots := 0, locals := 49 }) s m args below meth c H locs 0 0 (MQ below (va_Qv (fun u => LtP I z N u) (wat kC cs D ad (gA kC ad sz)) (gA kC ad sz)) args s 0 0 (gA kC ad sz)) (F0 m 9 ls []) from KL9 _ 0 0 q0 u1 _ _ _ (by omega) (by rw [hu1]; exact si_0 I z q0 (fun c y => by obtain ⟨_, i, h, _⟩ := y; exact absurd h (Nat.not_lt_zero _))) (Nat.lt_succ_self _) hP hD hS (lv_sub hl [0, 1] rfl)
  intro fuel9
  induction fuel9 with
  | zero => intro _ _ _ _ _ _ _ _ _ hm; exact absurd hm (Nat.not_lt_zero _)
  | succ fuel9 ih9 =>
    intro i n q v H locs ls hi hsi hm9 hP hD hS hl
    refine lv_iload_n hx hb dX0_findLight_9 rfl (lv_at hl 0 rfl) ?_
    refine lv_aload_n hx hb dX0_findLight_10 rfl (lv_at hl 1 rfl) ?_
    refine g_get (κ := 2) (ci := 0) (v := .int (v z 3)) (C := RX0) (T := TX0) (N := 7) hx hb hts hown hK hP (k := z) hz (by decide) rfl (fun _ h => List.mem_cons_of_mem _ (List.mem_append_left _ (List.mem_append_left _ (List.mem_append_left _ (List.mem_append_right _ h))))) rfl 3 (by decide) (hts _ (List.mem_of_getElem? (i := 2) rfl)) (fun _ h9 => h9) rfl dX0_findLight_11 ?_
    rw [show v z 3 = nI N from (by rw [hsi.2.2.1 z (by omega) (by omega) (by omega)]; exact hN3)]
    refine lv_icmp_ge (tgt := 70) hx hb dX0_findLight_14 (by decide) (fun c_2 => ?_) (fun c_2 => ?_)
    · skip
      have nc_2 : N ≤ i := (nI_leI (a := N) (b := i) (by omega) (by omega)).mp c_2
      refine lv_aload_n hx hb dX0_findLight_70 rfl (lv_at hl 1 rfl) ?_
      refine g_get (κ := 2) (ci := 0) (v := .ref (ad (z + 5))) (C := RX0) (T := TX0) (N := 7) hx hb hts hown hK hP (k := z) hz (by decide) rfl (fun _ h => List.mem_cons_of_mem _ (List.mem_append_left _ (List.mem_append_left _ (List.mem_append_left _ (List.mem_append_right _ h))))) rfl 1 (by decide) (hts _ (List.mem_of_getElem? (i := 1) rfl)) (fun _ h9 => h9) rfl dX0_findLight_71 ?_
      refine lv_aload_n hx hb dX0_findLight_74 rfl (lv_at hl 1 rfl) ?_
      refine g_get (κ := 2) (ci := 0) (v := .ref (ad (z + 1))) (C := RX0) (T := TX0) (N := 7) hx hb hts hown hK hP (k := z) hz (by decide) rfl (fun _ h => List.mem_cons_of_mem _ (List.mem_append_left _ (List.mem_append_left _ (List.mem_append_left _ (List.mem_append_right _ h))))) rfl 0 (by decide) (hts _ (List.mem_of_getElem? (i := 4) rfl)) (fun _ h9 => h9) rfl dX0_findLight_75 ?_
      refine lv_iconst (v := nI 3) hx hb dX0_findLight_78 (by decide) ?_
      refine g_callv hD hS hA (va_runV (As := [.ref (ad (z + 1)), .int (nI 3)]) (rest := []) ⟨hx, hb, hml, hown, hts⟩ (c_X1_spread l D cs ad v H.size 3 z hz (by decide) 0 n q (si_sp hsi)) (cwV 2 hts gX0_findLight_X1_spread rfl rfl rfl (by decide +kernel) ⟨Nat.le_of_ble_eq_true rfl, Nat.le_of_ble_eq_true rfl⟩) (g_preV hP hD hK hN (k := (z + 5)) (kd_2_1 hz) (by decide) rfl rfl rfl rfl) rfl rfl hl.1 rfl (lv_room (Nat.le_of_ble_eq_true rfl)) dX0_findLight_79 ⟨Nat.le_of_ble_eq_true rfl, Nat.le_of_ble_eq_true rfl⟩) (fun u3 H locs hsp hP hD hS => ?_)
      obtain ⟨n9, q9, dv9, hsp⟩ := hsp
      exact g_vret hx hb hr hlocks hP hD hS (by obtain ⟨e1, e2, e3⟩ := si_di hsi hsp; rw [show i = N from by omega] at e3; exact ⟨e1, e2, fun c hc => (DI_ne (e3 c hc) (by decide)).trans (rch_cg (fun _ _ => Iff.rfl) (fun x hx => ⟨fun y => y.2, fun y => ⟨hx, y⟩⟩) 3 c hc)⟩) dX0_findLight_82
    · skip
      have nc_2 : ¬ N ≤ i := fun z9_ => c_2 ((nI_leI (a := N) (b := i) (by omega) (by omega)).mpr z9_)
      obtain ⟨p, hp8, hp⟩ := hpl i (by omega)
      have hvT := vT (i := i) hsi.2.2.1
      refine lv_iload_n hx hb dX0_findLight_17 rfl (lv_at hl 0 rfl) ?_
      refine lv_bipush (v := nI 8) hx hb dX0_findLight_18 (by decide) ?_
      refine lv_icmp_ge (tgt := 70) hx hb dX0_findLight_20 (by decide) (fun c_4 => ?_) (fun c_4 => ?_)
      · skip
        have nc_4 : 8 ≤ i := (nI_leI (a := 8) (b := i) (by omega) (by omega)).mp c_4
        exact absurd nc_4 (by omega)
      · skip
        have nc_4 : ¬ 8 ≤ i := fun z9_ => c_4 ((nI_leI (a := 8) (b := i) (by omega) (by omega)).mpr z9_)
        refine lv_aload_n hx hb dX0_findLight_23 rfl (lv_at hl 1 rfl) ?_
        refine g_get (κ := 2) (ci := 0) (v := .ref (ad (z + 8))) (C := RX0) (T := TX0) (N := 7) hx hb hts hown hK hP (k := z) hz (by decide) rfl (fun _ h => List.mem_cons_of_mem _ (List.mem_append_left _ (List.mem_append_left _ (List.mem_append_left _ (List.mem_append_right _ h))))) rfl 2 (by decide) (hts _ (List.mem_of_getElem? (i := 3) rfl)) (fun _ h9 => h9) rfl dX0_findLight_24 ?_
        refine lv_iload_n hx hb dX0_findLight_27 rfl (lv_at hl 0 rfl) ?_
        refine g_crew (i := i) hx hb hK hP (k := (z + 8)) (kd_2_2 hz) (by omega) dX0_findLight_28 ?_
        refine g_getN (κ := 6) (ci := 4) (v := .int (v (z + 8 + (1 + i)) 4)) (C := RX4) (T := TX4) (N := 8) hx hb hts hown hK hP (k := (z + 8 + (1 + i))) (kd_crew (kd_2_2 hz) (show i < 8 from by omega)) (by decide) rfl (fun _ h => List.mem_cons_of_mem _ (List.mem_append_left _ (List.mem_append_left _ (List.mem_append_right _ h)))) rfl 4 (by decide) (nwu10 hN) (fun _ h9 => h9) rfl dX0_findLight_29 ?_
        refine lv_if_ne (tgt := 64) hx hb dX0_findLight_32 (by decide) (fun c_5 => ?_) (fun c_5 => ?_)
        · skip
          refine lv_iinc (v := nI (i + 1)) (lv' := [(1, .int (nI (i + 1))), (0, .ref (ad z))]) hx hb dX0_findLight_64 hl (k := 0) rfl (nI_1 i) (by decide) rfl (fun ls hl => ?_)
          refine lv_goto (tgt := 9) hx hb dX0_findLight_67 (by decide) ?_
          have hy := srL_n (I := I) (z := z) (i := i) (fun y => c_5 (by rw [hvT]; exact y.1))
          have hsi2 := si_cg hsi hy
          exact ih9 (i + 1) n q v _ _ _ (by omega) hsi2 (by omega) hP hD hS (lv_sub hl [0, 1] rfl)
        · skip
          refine lv_aload_n hx hb dX0_findLight_35 rfl (lv_at hl 1 rfl) ?_
          refine g_get (κ := 2) (ci := 0) (v := .ref (ad (z + 8))) (C := RX0) (T := TX0) (N := 7) hx hb hts hown hK hP (k := z) hz (by decide) rfl (fun _ h => List.mem_cons_of_mem _ (List.mem_append_left _ (List.mem_append_left _ (List.mem_append_left _ (List.mem_append_right _ h))))) rfl 2 (by decide) (hts _ (List.mem_of_getElem? (i := 3) rfl)) (fun _ h9 => h9) rfl dX0_findLight_36 ?_
          refine lv_iload_n hx hb dX0_findLight_39 rfl (lv_at hl 0 rfl) ?_
          refine g_crew (i := i) hx hb hK hP (k := (z + 8)) (kd_2_2 hz) (by omega) dX0_findLight_40 ?_
          refine g_getN (κ := 6) (ci := 4) (v := .int (v (z + 8 + (1 + i)) 3)) (C := RX4) (T := TX4) (N := 8) hx hb hts hown hK hP (k := (z + 8 + (1 + i))) (kd_crew (kd_2_2 hz) (show i < 8 from by omega)) (by decide) rfl (fun _ h => List.mem_cons_of_mem _ (List.mem_append_left _ (List.mem_append_left _ (List.mem_append_right _ h)))) rfl 3 (by decide) (nwu9 hN) (fun _ h9 => h9) rfl dX0_findLight_41 ?_
          refine lv_if_le (tgt := 64) hx hb dX0_findLight_44 (by decide) (fun c_6 => ?_) (fun c_6 => ?_)
          · skip
            refine lv_iinc (v := nI (i + 1)) (lv' := [(1, .int (nI (i + 1))), (0, .ref (ad z))]) hx hb dX0_findLight_64 hl (k := 0) rfl (nI_1 i) (by decide) rfl (fun ls hl => ?_)
            refine lv_goto (tgt := 9) hx hb dX0_findLight_67 (by decide) ?_
            have hy := srL_n (I := I) (z := z) (i := i) (fun y => not_lt_z c_6 (by rw [hvT]; exact y.2))
            have hsi2 := si_cg hsi hy
            exact ih9 (i + 1) n q v _ _ _ (by omega) hsi2 (by omega) hP hD hS (lv_sub hl [0, 1] rfl)
          · skip
            refine lv_aload_n hx hb dX0_findLight_47 rfl (lv_at hl 1 rfl) ?_
            refine g_get (κ := 2) (ci := 0) (v := .ref (ad (z + 5))) (C := RX0) (T := TX0) (N := 7) hx hb hts hown hK hP (k := z) hz (by decide) rfl (fun _ h => List.mem_cons_of_mem _ (List.mem_append_left _ (List.mem_append_left _ (List.mem_append_left _ (List.mem_append_right _ h))))) rfl 1 (by decide) (hts _ (List.mem_of_getElem? (i := 1) rfl)) (fun _ h9 => h9) rfl dX0_findLight_48 ?_
            refine lv_aload_n hx hb dX0_findLight_51 rfl (lv_at hl 1 rfl) ?_
            refine g_get (κ := 2) (ci := 0) (v := .ref (ad (z + 8))) (C := RX0) (T := TX0) (N := 7) hx hb hts hown hK hP (k := z) hz (by decide) rfl (fun _ h => List.mem_cons_of_mem _ (List.mem_append_left _ (List.mem_append_left _ (List.mem_append_left _ (List.mem_append_right _ h))))) rfl 2 (by decide) (hts _ (List.mem_of_getElem? (i := 3) rfl)) (fun _ h9 => h9) rfl dX0_findLight_52 ?_
            refine lv_iload_n hx hb dX0_findLight_55 rfl (lv_at hl 0 rfl) ?_
            refine g_crew (i := i) hx hb hK hP (k := (z + 8)) (kd_2_2 hz) (by omega) dX0_findLight_56 ?_
            refine g_getN (κ := 6) (ci := 4) (v := .int (v (z + 8 + (1 + i)) 0)) (C := RX4) (T := TX4) (N := 8) hx hb hts hown hK hP (k := (z + 8 + (1 + i))) (kd_crew (kd_2_2 hz) (show i < 8 from by omega)) (by decide) rfl (fun _ h => List.mem_cons_of_mem _ (List.mem_append_left _ (List.mem_append_left _ (List.mem_append_right _ h)))) rfl 0 (by decide) (nwu2 hN) (fun _ h9 => h9) rfl dX0_findLight_57 ?_
            rw [show v (z + 8 + (1 + i)) 0 = nI p from (by rw [hvT]; exact hp)]
            refine lv_iconst (v := nI 0) hx hb dX0_findLight_60 (by decide) ?_
            refine g_callM (M := m_X1_add v (z + 5) (nI p) (nI 0) n) hD hS hA (va_runV (As := [.int (nI p), .int (nI 0)]) (rest := []) ⟨hx, hb, hml, hown, hts⟩ (c_X1_add l D cs ad v H.size (z + 5) (kd_2_1 hz) (nI p) (nI 0) n hsi.1.2.1 hsi.1.1) (cwV 2 hts gX0_findLight_X1_add rfl rfl rfl (by decide +kernel) ⟨Nat.le_of_ble_eq_true rfl, Nat.le_of_ble_eq_true rfl⟩) (g_preV hP hD hK hN (k := (z + 5)) (kd_2_1 hz) (by decide) rfl rfl rfl rfl) rfl rfl hl.1 rfl (lv_room (Nat.le_of_ble_eq_true rfl)) dX0_findLight_61 ⟨Nat.le_of_ble_eq_true rfl, Nat.le_of_ble_eq_true rfl⟩) (fun u7 H locs hu7 hP hD hS => ?_)
            refine lv_iinc (v := nI (i + 1)) (lv' := [(1, .int (nI (i + 1))), (0, .ref (ad z))]) hx hb dX0_findLight_64 hl (k := 0) rfl (nI_1 i) (by decide) rfl (fun ls hl => ?_)
            refine lv_goto (tgt := 9) hx hb dX0_findLight_67 (by decide) ?_
            obtain ⟨n8, q8, hsi2⟩ := si_add hsi hp8 (srL_y (by rw [← hvT]; exact c_5) (by rw [← hvT]; exact not_le_z c_6) hp hp8)
            rw [← hu7] at hsi2
            exact ih9 (i + 1) n8 q8 u7 _ _ _ (by omega) hsi2 (by omega) hP hD hS (lv_sub hl [0, 1] rfl)

set_option maxHeartbeats 4000000 in
set_option maxRecDepth 100000 in
theorem c_X0_findHeld (l : Launch) (D : va_G) (cs : Nat → ClassId) (ad : Nat → Nat) (I : Mm) (sz : Nat) (z : Nat) (hz : kC.getD z 0 = 2) (n0 : Nat) (q0 : Nat → Nat) (hq0 : RQ I (z + 5) n0 q0) : MetN l yX0_findHeld wsX0_findHeld ({ frames := 2, cells := 0, slots := 0, locals := 49 }) kC cs D ad I sz [.ref (ad z)] (fun u => HdP I z u) 0 0 := by
  refine g_met (cc := cX0_findHeld) (maxL := 2) (ret := none) (by decide) rfl (Nat.le_of_ble_eq_true rfl) ?_
  intro pg e s m args below meth c ls hx hb hr hml hts hown hlocks hsz hP hD hK hN hS hA hl
  have hown : s.vm.findClass RX0 = some m.cls := hown
  have hl : lv_has ls 2 [(0, .ref (ad z))] := hl
  refine lv_aload_n hx hb dX0_findHeld_0 rfl (lv_at hl 0 rfl) ?_
  refine g_get (κ := 2) (ci := 0) (v := .ref (ad (z + 5))) (C := RX0) (T := TX0) (N := 7) hx hb hts hown hK hP (k := z) hz (by decide) rfl (fun _ h => List.mem_cons_of_mem _ (List.mem_append_left _ (List.mem_append_left _ (List.mem_append_right _ h)))) rfl 1 (by decide) (hts _ (List.mem_of_getElem? (i := 1) rfl)) (fun _ h9 => h9) rfl dX0_findHeld_1 ?_
  refine g_callM (M := m_X1_clear I (z + 5)) hD hS hA (va_runV (As := []) (rest := []) ⟨hx, hb, hml, hown, hts⟩ (c_X1_clear l D cs ad I s.heap.size (z + 5) (kd_2_1 hz) n0 q0 hq0) (cwV 0 hts gX0_findHeld_X1_clear rfl rfl rfl (by decide +kernel) ⟨Nat.le_of_ble_eq_true rfl, Nat.le_of_ble_eq_true rfl⟩) (g_preV hP hD hK hN (k := (z + 5)) (kd_2_1 hz) (by decide) rfl rfl rfl rfl) rfl rfl hl.1 rfl (lv_room (Nat.le_of_ble_eq_true rfl)) dX0_findHeld_4 ⟨Nat.le_of_ble_eq_true rfl, Nat.le_of_ble_eq_true rfl⟩) (fun u1 H locs hu1 hP hD hS => ?_)
  refine lv_iconst (v := nI 0) hx hb dX0_findHeld_7 (by decide) ?_
  refine lv_istore_n (lv' := [(1, .int (nI 0)), (0, .ref (ad z))]) hx hb dX0_findHeld_8 rfl hl (by decide) rfl (fun ls hl => ?_)
  suffices KL9 : ∀ (fuel : Nat) (i : Nat) (n : Nat) (q : Nat → Nat) (v : Mm) (H : Heap) (locs : List Loc) (ls : Array Slot), (i ≤ 256) → (SI I z (srH I z i) n q v) → 256 - i < fuel → va_P D vwCl (gw kC cs ad v) H → va_D (gA kC ad sz) (gw kC cs ad v) → va_S (gA kC ad sz) s.heap H locs → lv_has ls 2 [(1, .int (nI i)), (0, .ref (ad z))] → W pg l e ({ frames := 2, cells := 0, slots := 0, locals := 49 }) s m args below meth c H locs 0 0 (MQ below (va_Qv (fun u => HdP I z u) (wat kC cs D ad (gA kC ad sz)) (gA kC ad sz)) args s 0 0 (gA kC ad sz)) (F0 m 9 ls []) from KL9 _ 0 0 q0 u1 _ _ _ (by omega) (by rw [hu1]; exact si_0 I z q0 (fun c y => absurd y.1 (Nat.not_lt_zero _))) (Nat.lt_succ_self _) hP hD hS (lv_sub hl [0, 1] rfl)
  intro fuel9
  induction fuel9 with
  | zero => intro _ _ _ _ _ _ _ _ _ hm; exact absurd hm (Nat.not_lt_zero _)
  | succ fuel9 ih9 =>
    intro i n q v H locs ls hi hsi hm9 hP hD hS hl
    refine lv_iload_n hx hb dX0_findHeld_9 rfl (lv_at hl 0 rfl) ?_
    refine lv_sipush (v := nI 256) hx hb dX0_findHeld_10 (by decide) ?_
    refine lv_icmp_ge (tgt := 42) hx hb dX0_findHeld_13 (by decide) (fun c_2 => ?_) (fun c_2 => ?_)
    · skip
      have nc_2 : 256 ≤ i := (nI_leI (a := 256) (b := i) (by omega) (by omega)).mp c_2
      refine lv_aload_n hx hb dX0_findHeld_42 rfl (lv_at hl 1 rfl) ?_
      refine g_get (κ := 2) (ci := 0) (v := .ref (ad (z + 5))) (C := RX0) (T := TX0) (N := 7) hx hb hts hown hK hP (k := z) hz (by decide) rfl (fun _ h => List.mem_cons_of_mem _ (List.mem_append_left _ (List.mem_append_left _ (List.mem_append_right _ h)))) rfl 1 (by decide) (hts _ (List.mem_of_getElem? (i := 1) rfl)) (fun _ h9 => h9) rfl dX0_findHeld_43 ?_
      refine lv_aload_n hx hb dX0_findHeld_46 rfl (lv_at hl 1 rfl) ?_
      refine g_get (κ := 2) (ci := 0) (v := .ref (ad (z + 1))) (C := RX0) (T := TX0) (N := 7) hx hb hts hown hK hP (k := z) hz (by decide) rfl (fun _ h => List.mem_cons_of_mem _ (List.mem_append_left _ (List.mem_append_left _ (List.mem_append_right _ h)))) rfl 0 (by decide) (hts _ (List.mem_of_getElem? (i := 2) rfl)) (fun _ h9 => h9) rfl dX0_findHeld_47 ?_
      refine lv_iconst (v := nI 2) hx hb dX0_findHeld_50 (by decide) ?_
      refine g_callv hD hS hA (va_runV (As := [.ref (ad (z + 1)), .int (nI 2)]) (rest := []) ⟨hx, hb, hml, hown, hts⟩ (c_X1_spread l D cs ad v H.size 2 z hz (by decide) 0 n q (si_sp hsi)) (cwV 2 hts gX0_findHeld_X1_spread rfl rfl rfl (by decide +kernel) ⟨Nat.le_of_ble_eq_true rfl, Nat.le_of_ble_eq_true rfl⟩) (g_preV hP hD hK hN (k := (z + 5)) (kd_2_1 hz) (by decide) rfl rfl rfl rfl) rfl rfl hl.1 rfl (lv_room (Nat.le_of_ble_eq_true rfl)) dX0_findHeld_51 ⟨Nat.le_of_ble_eq_true rfl, Nat.le_of_ble_eq_true rfl⟩) (fun u3 H locs hsp hP hD hS => ?_)
      obtain ⟨n9, q9, dv9, hsp⟩ := hsp
      exact g_vret hx hb hr hlocks hP hD hS (by obtain ⟨e1, e2, e3⟩ := si_di hsi hsp; rw [show i = 256 from by omega] at e3; exact ⟨e1, e2, fun c hc => DI_ne (e3 c hc) (by decide)⟩) dX0_findHeld_54
    · skip
      have nc_2 : ¬ 256 ≤ i := fun z9_ => c_2 ((nI_leI (a := 256) (b := i) (by omega) (by omega)).mpr z9_)
      refine lv_aload_n hx hb dX0_findHeld_16 rfl (lv_at hl 1 rfl) ?_
      refine g_get (κ := 2) (ci := 0) (v := .ref (ad (z + 1))) (C := RX0) (T := TX0) (N := 7) hx hb hts hown hK hP (k := z) hz (by decide) rfl (fun _ h => List.mem_cons_of_mem _ (List.mem_append_left _ (List.mem_append_left _ (List.mem_append_right _ h)))) rfl 0 (by decide) (hts _ (List.mem_of_getElem? (i := 2) rfl)) (fun _ h9 => h9) rfl dX0_findHeld_17 ?_
      refine lv_iload_n hx hb dX0_findHeld_20 rfl (lv_at hl 0 rfl) ?_
      refine g_callF (F := f_X3_postsAt v (z + 1) (nI i)) hD hS hA (va_runV (As := [.int (nI i)]) (rest := []) ⟨hx, hb, hml, hown, hts⟩ (c_X3_postsAt l D cs ad v H.size (z + 1) (kd_2_0 hz) (nI i)) (cwV 1 hts gX0_findHeld_X3_postsAt rfl rfl rfl (by decide +kernel) ⟨Nat.le_of_ble_eq_true rfl, Nat.le_of_ble_eq_true rfl⟩) (g_preV hP hD hK hN (k := (z + 1)) (kd_2_0 hz) (by decide) rfl rfl rfl rfl) rfl rfl hl.1 rfl (lv_room (Nat.le_of_ble_eq_true rfl)) dX0_findHeld_21 ⟨Nat.le_of_ble_eq_true rfl, Nat.le_of_ble_eq_true rfl⟩) (fun H locs hP hD hS => ?_)
      refine lv_if_le (tgt := 36) hx hb dX0_findHeld_24 (by decide) (fun c_4 => ?_) (fun c_4 => ?_)
      · skip
        refine lv_iinc (v := nI (i + 1)) (lv' := [(1, .int (nI (i + 1))), (0, .ref (ad z))]) hx hb dX0_findHeld_36 hl (k := 0) rfl (nI_1 i) (by decide) rfl (fun ls hl => ?_)
        refine lv_goto (tgt := 9) hx hb dX0_findHeld_39 (by decide) ?_
        have hsi2 := si_cg hsi (srH_n (I := I) (z := z) (i := i) (not_lt_z (by have y := c_4; rw [posts_in (by omega), hsi.2.2.1 _ (by omega) (by omega) (by omega)] at y; exact y)))
        exact ih9 (i + 1) n q v _ _ _ (by omega) hsi2 (by omega) hP hD hS (lv_sub hl [0, 1] rfl)
      · skip
        refine lv_aload_n hx hb dX0_findHeld_27 rfl (lv_at hl 1 rfl) ?_
        refine g_get (κ := 2) (ci := 0) (v := .ref (ad (z + 5))) (C := RX0) (T := TX0) (N := 7) hx hb hts hown hK hP (k := z) hz (by decide) rfl (fun _ h => List.mem_cons_of_mem _ (List.mem_append_left _ (List.mem_append_left _ (List.mem_append_right _ h)))) rfl 1 (by decide) (hts _ (List.mem_of_getElem? (i := 1) rfl)) (fun _ h9 => h9) rfl dX0_findHeld_28 ?_
        refine lv_iload_n hx hb dX0_findHeld_31 rfl (lv_at hl 0 rfl) ?_
        refine lv_iconst (v := nI 0) hx hb dX0_findHeld_32 (by decide) ?_
        refine g_callM (M := m_X1_add v (z + 5) (nI i) (nI 0) n) hD hS hA (va_runV (As := [.int (nI i), .int (nI 0)]) (rest := []) ⟨hx, hb, hml, hown, hts⟩ (c_X1_add l D cs ad v H.size (z + 5) (kd_2_1 hz) (nI i) (nI 0) n hsi.1.2.1 hsi.1.1) (cwV 2 hts gX0_findHeld_X1_add rfl rfl rfl (by decide +kernel) ⟨Nat.le_of_ble_eq_true rfl, Nat.le_of_ble_eq_true rfl⟩) (g_preV hP hD hK hN (k := (z + 5)) (kd_2_1 hz) (by decide) rfl rfl rfl rfl) rfl rfl hl.1 rfl (lv_room (Nat.le_of_ble_eq_true rfl)) dX0_findHeld_33 ⟨Nat.le_of_ble_eq_true rfl, Nat.le_of_ble_eq_true rfl⟩) (fun u5 H locs hu5 hP hD hS => ?_)
        refine lv_iinc (v := nI (i + 1)) (lv' := [(1, .int (nI (i + 1))), (0, .ref (ad z))]) hx hb dX0_findHeld_36 hl (k := 0) rfl (nI_1 i) (by decide) rfl (fun ls hl => ?_)
        refine lv_goto (tgt := 9) hx hb dX0_findHeld_39 (by decide) ?_
        obtain ⟨n8, q8, hsi2⟩ := si_add hsi (show i < 256 from by omega) (srH_y (I := I) (z := z) (not_le_z (by have y := c_4; rw [posts_in (by omega), hsi.2.2.1 _ (by omega) (by omega) (by omega)] at y; exact y)))
        rw [← hu5] at hsi2
        exact ih9 (i + 1) n8 q8 u5 _ _ _ (by omega) hsi2 (by omega) hP hD hS (lv_sub hl [0, 1] rfl)
