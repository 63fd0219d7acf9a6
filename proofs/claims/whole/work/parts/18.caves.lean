def conn (op src : Nat → Prop) (c : Nat) : Prop := ∃ d, rch op src d c
theorem conn_cg {op op' src src' : Nat → Prop} (ho : ∀ c, c < 256 → (op c ↔ op' c)) (hs : ∀ c, c < 256 → (src c ↔ src' c)) {c : Nat} (hc : c < 256) : conn op src c ↔ conn op' src' c :=
  ⟨fun ⟨d, h⟩ => ⟨d, (rch_cg ho hs d c hc).mp h⟩, fun ⟨d, h⟩ => ⟨d, (rch_cg ho hs d c hc).mpr h⟩⟩
/-- marks of caves: start by start, each from a cell that is not marked yet -/
def mkM (op M0 go : Nat → Prop) (p : Nat → Nat) : Nat → Nat → Prop
  | 0 => M0
  | i + 1 => fun c => mkM op M0 go p i c ∨ (go i ∧ ¬ mkM op M0 go p i (p i) ∧ conn (fun x => op x ∧ ¬ mkM op M0 go p i x) (fun x => x = p i) c)
theorem mkM_n {op M0 go : Nat → Prop} {p : Nat → Nat} {i : Nat} (h : ¬ (go i ∧ ¬ mkM op M0 go p i (p i))) : ∀ c, mkM op M0 go p (i + 1) c ↔ mkM op M0 go p i c :=
  fun _ => ⟨fun y => y.elim id (fun y => absurd ⟨y.1, y.2.1⟩ h), Or.inl⟩
def CV (I : Mm) (z : Nat) (M : Nat → Prop) (n : Nat) (q : Nat → Nat) (v : Mm) : Prop := RQ v (z + 5) n q ∧ v (z + 5) 3 = nI n ∧ EqX z v I ∧ ∀ c, c < 256 → (v (z + 5 + 1) c ≠ -1 ↔ M c)
theorem cv_cg {I : Mm} {z : Nat} {M M' : Nat → Prop} {n : Nat} {q : Nat → Nat} {v : Mm} (h : CV I z M n q v) (hM : ∀ c, c < 256 → (M' c ↔ M c)) : CV I z M' n q v := ⟨h.1, h.2.1, h.2.2.1, fun c hc => (h.2.2.2 c hc).trans (hM c hc).symm⟩
theorem cv_n {I : Mm} {z : Nat} {M : Nat → Prop} {n : Nat} {q : Nat → Nat} {v : Mm} (h : CV I z M n q v) : n = cn (fun c => cd (M c)) 256 := by
  rw [← h.1.2.2.2.2.2.2]
  refine cn_cg (fun c hc => ?_)
  by_cases hm : v (z + 5 + 1) c ≠ -1
  · rw [decide_eq_true hm, cd_t ((h.2.2.2 c hc).mp hm)]
  · rw [decide_eq_false hm, cd_f (fun y => hm ((h.2.2.2 c hc).mpr y))]
theorem cv_q {I : Mm} {z : Nat} {M : Nat → Prop} {n : Nat} {q : Nat → Nat} {v : Mm} (h : CV I z M n q v) {c : Nat} (hc : c < 256) : (∃ j, j < n ∧ q j = c) ↔ M c := by
  rw [← h.2.2.2 c hc]
  exact ⟨fun ⟨j, g1, g2⟩ => by rw [← g2]; exact h.1.2.2.2.2.1 j g1, fun g => h.1.2.2.2.2.2.1 c hc g⟩
/-- a start laid behind what is marked -/
def CA (I : Mm) (z : Nat) (M : Nat → Prop) (p n : Nat) (q : Nat → Nat) (n0 : Nat) (q0 : Nat → Nat) (v : Mm) : Prop := SP v (z + 5) (z + 1) 256 n n0 q0 n n0 q0 (fun _ => 0) 0 v ∧ EqX z v I ∧ n ≤ n0 ∧ (∀ x, x < 256 → ((∃ j, j < n ∧ q0 j = x) ↔ M x)) ∧ ∀ x, x < 256 → (srS n n0 q0 x ↔ x = p ∧ ¬ M p)
theorem cv_add {I : Mm} {z : Nat} {M : Nat → Prop} {n : Nat} {q : Nat → Nat} {v : Mm} (h : CV I z M n q v) {p : Nat} (hp : p < 256) : ∃ n0 q0, CA I z M p n q n0 q0 (m_X1_add v (z + 5) (nI p) (nI 0) n) := by
  by_cases hm : v (z + 5 + 1) p = -1
  · obtain ⟨hn, hR2, hd⟩ := RQ_add (v := nI 0) h.1 hp hm (nI_m1 (by decide))
    have e := add_new (v := nI 0) hp hm hn
    have hMp : ¬ M p := fun y => (h.2.2.2 p hp).mpr y hm
    refine ⟨n + 1, fun j => if j = n then p else q j, ?_, ?_, by omega, ?_, ?_⟩
    · refine sp_init hR2 ?_ (by omega) (fun j h1 h2 => ?_)
      · rw [e, wr_sn _ _ _ (by omega), wr_n _ _ _ (by omega), wr_n _ _ _ (by omega)]; exact h.2.1
      · try dsimp only
        rw [if_pos (by omega), e, wr_n _ _ _ (by omega), wr_n _ _ _ (by omega), wr_ss]
    · intro a g1 g2 g3
      rw [e, wr_n _ _ _ g1, wr_n _ _ _ g3, wr_n _ _ _ g2]; exact h.2.2.1 a g1 g2 g3
    · intro x hx
      rw [← cv_q h hx]
      dsimp only
      exact ⟨fun ⟨j, g1, g2⟩ => ⟨j, g1, by rw [if_neg (by omega)] at g2; exact g2⟩, fun ⟨j, g1, g2⟩ => ⟨j, g1, by rw [if_neg (by omega)]; exact g2⟩⟩
    · intro x hx
      simp only [srS]
      constructor
      · rintro ⟨j, g1, g2, g3⟩
        rw [if_pos (by omega)] at g3
        exact ⟨g3.symm, hMp⟩
      · rintro ⟨g1, -⟩
        exact ⟨n, by omega, by omega, by rw [if_pos rfl, g1]⟩
  · rw [add_old hp hm]
    have hMp : M p := (h.2.2.2 p hp).mp hm
    refine ⟨n, q, sp_init h.1 h.2.1 (Nat.le_refl _) (fun j h1 h2 => absurd h2 (Nat.not_lt.mpr h1)), h.2.2.1, Nat.le_refl _, fun x hx => cv_q h hx, fun x hx => ⟨fun ⟨j, g1, g2, _⟩ => absurd g2 (Nat.not_lt.mpr g1), fun g => absurd hMp g.2⟩⟩
theorem sp_reachA {I : Mm} {k t mo nx n0 : Nat} {q0 : Nat → Nat} {n : Nat} {q dv : Nat → Nat} {w : Nat} {u : Mm} (h : SP I k t mo nx n0 q0 n n q dv w u) (hmo : n ≤ mo) : ∀ (d c : Nat), c < 256 → rch (opS I t nx q0) (srS nx n0 q0) d c → ∃ j, nx ≤ j ∧ j < n ∧ q j = c
  | 0, c, _, hr => by
    obtain ⟨j, h1, h2, h3⟩ := hr
    exact ⟨j, h1, Nat.lt_of_lt_of_le h2 h.1.2.2.2.2.1, by rw [h.2.1.2.1 j h2, h3]⟩
  | d + 1, c, hc, hr => by
    rcases hr with hr | ⟨ho, p, w', hp, hw, hb, hr⟩
    · exact sp_reachA h hmo d c hc hr
    · obtain ⟨i, h1, h2, h3⟩ := sp_reachA h hmo d p hp hr
      subst h3
      have hdi := (h.2.2.1 i h1 h2).2.1
      obtain ⟨j, g1, g2, g3⟩ := h.2.2.2.2.2.2.1 i h1 h2 (by omega) w' hw (by omega) (by rw [hb]; exact ho.1)
      rw [hb] at g2
      rcases Nat.lt_or_ge j nx with z | z
      · exact absurd (by rw [← h.2.1.2.1 j (Nat.lt_of_lt_of_le z h.1.2.2.2.2.2)]; exact g2) (ho.2 j z)
      · exact ⟨j, z, g1, g2⟩
theorem cv_fin {I : Mm} {z : Nat} {M : Nat → Prop} {p n n0 n2 : Nat} {q q0 q2 dv : Nat → Nat} {v u : Mm} (h : CA I z M p n q n0 q0 v) (hs : SP v (z + 5) (z + 1) 256 n n0 q0 n2 n2 q2 dv 0 u) : n ≤ n2 ∧ CV I z (fun c => M c ∨ (¬ M p ∧ conn (fun x => opn I z x ∧ ¬ M x) (fun x => x = p) c)) n2 q2 u := by
  have hR := hs.1.1
  have hop : ∀ c, c < 256 → (opS v (z + 1) n q0 c ↔ (opn I z c ∧ ¬ M c)) := fun c hc => by
    rw [opS, opn, h.2.1 (z + 1 + 1) (by omega) (by omega) (by omega), ← h.2.2.2.1 c hc]
    exact ⟨fun y => ⟨y.1, fun ⟨j, g1, g2⟩ => y.2 j g1 g2⟩, fun y => ⟨y.1, fun j g1 g2 => y.2 ⟨j, g1, g2⟩⟩⟩
  have hle : n ≤ n2 := hs.1.2.2.1
  refine ⟨hle, hR, hs.1.2.1, EqX.tr hs.2.1.1 h.2.1, fun c hc => ?_⟩
  constructor
  · intro hm
    obtain ⟨j, g1, g2⟩ := hR.2.2.2.2.2.1 c hc hm
    rcases Nat.lt_or_ge j n with y | y
    · exact Or.inl ((h.2.2.2.1 c hc).mp ⟨j, y, by rw [← hs.2.1.2.1 j (Nat.lt_of_lt_of_le y hs.1.2.2.2.2.2)]; exact g2⟩)
    · have a3 := (hs.2.2.1 j y g1).2.2.2
      rw [g2] at a3
      by_cases hMp : M p
      · exfalso
        have hno : ∀ d x, x < 256 → ¬ rch (opS v (z + 1) n q0) (srS n n0 q0) d x := by
          intro d
          induction d with
          | zero => intro x hx hr; exact ((h.2.2.2.2 x hx).mp hr).2 hMp
          | succ d ih =>
            intro x hx hr
            rcases hr with hr | ⟨_, p', w', hp', _, _, hr⟩
            · exact ih x hx hr
            · exact ih p' hp' hr
        exact hno _ c hc a3
      · exact Or.inr ⟨hMp, (conn_cg hop (fun x hx => (h.2.2.2.2 x hx).trans ⟨fun y => y.1, fun y => ⟨y, hMp⟩⟩) hc).mp ⟨_, a3⟩⟩
  · rintro (hM | ⟨hMp, hcn⟩)
    · obtain ⟨j, g1, g2⟩ := (h.2.2.2.1 c hc).mpr hM
      have e1 := hs.2.1.2.2 j g1
      rw [g2] at e1
      rw [e1]
      have := h.1.1.1.2.2.2.2.1 j (Nat.lt_of_lt_of_le g1 h.2.2.1)
      rw [g2] at this
      exact this
    · obtain ⟨d, hr⟩ := (conn_cg hop (fun x hx => (h.2.2.2.2 x hx).trans ⟨fun y => y.1, fun y => ⟨y, hMp⟩⟩) hc).mpr hcn
      obtain ⟨j, _, g1, g2⟩ := sp_reachA hs hR.1 d c hc hr
      rw [← g2]; exact hR.2.2.2.2.1 j g1
theorem holds_in {I : Mm} {k c : Nat} (hc : c < 256) : f_X1_holds I k (nI c) = bi (decide (I (k + 1) c ≠ -1)) := by
  simp only [f_X1_holds]
  rw [steps_in hc]
  by_cases h : I (k + 1) c = -1
  · rw [if_pos h, decide_eq_false (fun y => y h)]; rfl
  · rw [if_neg h, decide_eq_true h]; rfl
theorem cv_hy {I : Mm} {z : Nat} {M : Nat → Prop} {n : Nat} {q : Nat → Nat} {v : Mm} (h : CV I z M n q v) {c : Nat} (hc : c < 256) (hh : ¬ f_X1_holds v (z + 5) (nI c) = 0) : M c := by
  rw [holds_in hc] at hh
  exact (h.2.2.2 c hc).mp (of_decide_eq_true (bi_ne hh))
theorem cv_hn {I : Mm} {z : Nat} {M : Nat → Prop} {n : Nat} {q : Nat → Nat} {v : Mm} (h : CV I z M n q v) {c : Nat} (hc : c < 256) (hh : f_X1_holds v (z + 5) (nI c) = 0) : ¬ M c := by
  rw [holds_in hc] at hh
  exact fun y => of_decide_eq_false (bi_eq hh) ((h.2.2.2 c hc).mpr y)
theorem cv_oy {I : Mm} {z : Nat} {M : Nat → Prop} {n : Nat} {q : Nat → Nat} {v : Mm} (h : CV I z M n q v) {c : Nat} (hc : c < 256) (hh : ¬ f_X3_isOpen v (z + 1) (nI c) = 0) : opn I z c := by
  have := open_y hc hh
  rw [opn, h.2.2.1 (z + 1 + 1) (by omega) (by omega) (by omega)] at this
  exact this
theorem cv_on {I : Mm} {z : Nat} {M : Nat → Prop} {n : Nat} {q : Nat → Nat} {v : Mm} (h : CV I z M n q v) {c : Nat} (hc : c < 256) (hh : f_X3_isOpen v (z + 1) (nI c) = 0) : ¬ opn I z c := by
  have := open_n hc hh
  rw [opn, h.2.2.1 (z + 1 + 1) (by omega) (by omega) (by omega)] at this
  exact this
theorem cv_shut {I : Mm} {z : Nat} {q : Nat → Nat} {a : Int32} (ha : a = -1 ∨ ∃ p, p < 256 ∧ a = nI p) : ∃ n q2, CV I z (fun c => a = nI c) n q2 (m_X1_shut (m_X1_clear I (z + 5)) (z + 5) a 0) := by
  have h0 : CV I z (fun _ => False) 0 q (m_X1_clear I (z + 5)) := ⟨clear_RQ I (z + 5) q, by simp only [m_X1_clear]; exact wr_ss _ _ _ _, clear_eqx I z, fun c hc => ⟨fun y => y (by simp only [m_X1_clear]; rw [wr_n _ _ _ (by omega), wr_n _ _ _ (by omega), wrA_s, if_pos hc]), False.elim⟩⟩
  have key : ∀ (v : Mm) (M : Nat → Prop) (n : Nat) (q : Nat → Nat), RQ v (z + 5) n q → EqX z v I → (∀ c, c < 256 → (v (z + 5 + 1) c ≠ -1 ↔ M c)) → CV I z M n q (wr v (z + 5) 3 (v (z + 5) 2)) := by
    intro v M n q hR hE hM
    refine ⟨RQ.eq hR (wr_sn _ _ _ (by decide)) (wr_n _ _ _ (by omega)) (wr_n _ _ _ (by omega)), by rw [wr_ss]; exact hR.2.1, fun x g1 g2 g3 => by rw [wr_n _ _ _ g1]; exact hE x g1 g2 g3, fun c hc => by rw [wr_n _ _ _ (by omega)]; exact hM c hc⟩
  rcases ha with rfl | ⟨p, hp, rfl⟩
  · refine ⟨0, q, ?_⟩
    simp only [m_X1_shut]
    rw [add_out]
    exact key _ _ _ _ h0.1 h0.2.2.1 (fun c hc => (h0.2.2.2 c hc).trans ⟨False.elim, fun y => nI_m1 (by omega) y.symm⟩)
  · obtain ⟨n0, q0, hca⟩ := cv_add h0 hp
    refine ⟨n0, q0, ?_⟩
    simp only [m_X1_shut]
    have hR := hca.1.1.1
    refine key _ _ _ _ hR hca.2.1 (fun c hc => ?_)
    have hq : (∃ j, j < n0 ∧ q0 j = c) ↔ c = p := by
      have := hca.2.2.2.2 c hc
      simp only [srS] at this
      exact ⟨fun ⟨j, g1, g2⟩ => (this.mp ⟨j, Nat.zero_le _, g1, g2⟩).1, fun g => (this.mpr ⟨g, fun y => y⟩).elim fun j y => ⟨j, y.2.1, y.2.2⟩⟩
    constructor
    · intro hm
      rw [(hq.mp (hR.2.2.2.2.2.1 c hc hm))]
    · intro hm
      obtain ⟨j, g1, g2⟩ := hq.mpr ((nI_eq (by omega) (by omega)).mp hm.symm)
      rw [← g2]; exact hR.2.2.2.2.1 j g1
theorem cv_0 (I : Mm) (z : Nat) (q : Nat → Nat) : CV I z (fun _ => False) 0 q (m_X1_clear I (z + 5)) := ⟨clear_RQ I (z + 5) q, by simp only [m_X1_clear]; exact wr_ss _ _ _ _, clear_eqx I z, fun c hc => ⟨fun y => y (by simp only [m_X1_clear]; rw [wr_n _ _ _ (by omega), wr_n _ _ _ (by omega), wrA_s, if_pos hc]), False.elim⟩⟩
def cvm (I : Mm) (z : Nat) (M0 : Nat → Prop) : Nat → Nat → Prop := mkM (opn I z) M0 (opn I z) (fun x => x)
noncomputable def cvs (op M0 : Nat → Prop) (n : Nat) : Nat := cn (fun x => cd (op x ∧ ¬ mkM op M0 op (fun x => x) x x)) n
noncomputable def lgst (op M0 : Nat → Prop) : Nat → Nat
  | 0 => 0
  | i + 1 => max (lgst op M0 i) (cn (fun c => cd (mkM op M0 op (fun x => x) (i + 1) c)) 256 - cn (fun c => cd (mkM op M0 op (fun x => x) i c)) 256)
theorem cvs_n {op M0 : Nat → Prop} {i : Nat} (h : ¬ (op i ∧ ¬ mkM op M0 op (fun x => x) i i)) : cvs op M0 (i + 1) = cvs op M0 i := cn_f (cd_f h)
theorem cvs_y {op M0 : Nat → Prop} {i : Nat} (h : op i ∧ ¬ mkM op M0 op (fun x => x) i i) : cvs op M0 (i + 1) = cvs op M0 i + 1 := cn_t (cd_t h)
theorem lgst_n {op M0 : Nat → Prop} {i : Nat} (h : ¬ (op i ∧ ¬ mkM op M0 op (fun x => x) i i)) : lgst op M0 (i + 1) = lgst op M0 i := by
  simp only [lgst]
  rw [cn_cg (p := fun c => cd (mkM op M0 op (fun x => x) (i + 1) c)) (q := fun c => cd (mkM op M0 op (fun x => x) i c)) (fun c _ => by
    have := mkM_n (M0 := M0) (p := fun x => x) h c
    by_cases y : mkM op M0 op (fun x => x) i c
    · rw [cd_t y, cd_t (this.mpr y)]
    · rw [cd_f y, cd_f (fun y2 => y (this.mp y2))])]
  simp

set_option maxHeartbeats 4000000 in
set_option maxRecDepth 100000 in
theorem c_X0_cavesWithout (l : Launch) (D : va_G) (cs : Nat → ClassId) (ad : Nat → Nat) (I : Mm) (sz : Nat) (z : Nat) (hz : kC.getD z 0 = 2) (a : Int32) (n0 : Nat) (q0 : Nat → Nat) (hq0 : RQ I (z + 5) n0 q0) (ha : a = -1 ∨ ∃ p, p < 256 ∧ a = nI p) : MetI l yX0_cavesWithout wsX0_cavesWithout ({ frames := 2, cells := 0, slots := 0, locals := 49 }) kC cs D ad I sz [.ref (ad z), .int a] (fun r u => EqX z u I ∧ (∃ n q, RQ u (z + 5) n q) ∧ r = nI (cvs (opn I z) (fun c => a = nI c) 256)) 0 0 := by
  refine g_met (cc := cX0_cavesWithout) (maxL := 4) (ret := (some .int)) (by decide) rfl (Nat.le_of_ble_eq_true rfl) ?_
  intro pg e s m args below meth c ls hx hb hr hml hts hown hlocks hsz hP hD hK hN hS hA hl
  have hown : s.vm.findClass RX0 = some m.cls := hown
  have hl : lv_has ls 4 [(0, .ref (ad z)), (1, .int a)] := hl
  obtain ⟨M0, hM0⟩ : ∃ M0 : Nat → Prop, M0 = fun c => a = nI c := ⟨_, rfl⟩
  refine lv_aload_n hx hb dX0_cavesWithout_0 rfl (lv_at hl 0 rfl) ?_
  refine g_get (κ := 2) (ci := 0) (v := .ref (ad (z + 5))) (C := RX0) (T := TX0) (N := 7) hx hb hts hown hK hP (k := z) hz (by decide) rfl (fun _ h => List.mem_cons_of_mem _ (List.mem_append_left _ (List.mem_append_left _ (List.mem_append_right _ h)))) rfl 1 (by decide) (hts _ (List.mem_of_getElem? (i := 1) rfl)) (fun _ h9 => h9) rfl dX0_cavesWithout_1 ?_
  refine g_callM (M := m_X1_clear I (z + 5)) hD hS hA (va_runV (As := []) (rest := []) ⟨hx, hb, hml, hown, hts⟩ (c_X1_clear l D cs ad I s.heap.size (z + 5) (kd_2_1 hz) n0 q0 hq0) (cwV 0 hts gX0_cavesWithout_X1_clear rfl rfl rfl (by decide +kernel) ⟨Nat.le_of_ble_eq_true rfl, Nat.le_of_ble_eq_true rfl⟩) (g_preV hP hD hK hN (k := (z + 5)) (kd_2_1 hz) (by decide) rfl rfl rfl rfl) rfl rfl hl.1 rfl (lv_room (Nat.le_of_ble_eq_true rfl)) dX0_cavesWithout_4 ⟨Nat.le_of_ble_eq_true rfl, Nat.le_of_ble_eq_true rfl⟩) (fun u1 H locs hu1 hP hD hS => ?_)
  refine lv_aload_n hx hb dX0_cavesWithout_7 rfl (lv_at hl 0 rfl) ?_
  refine g_get (κ := 2) (ci := 0) (v := .ref (ad (z + 5))) (C := RX0) (T := TX0) (N := 7) hx hb hts hown hK hP (k := z) hz (by decide) rfl (fun _ h => List.mem_cons_of_mem _ (List.mem_append_left _ (List.mem_append_left _ (List.mem_append_right _ h)))) rfl 1 (by decide) (hts _ (List.mem_of_getElem? (i := 1) rfl)) (fun _ h9 => h9) rfl dX0_cavesWithout_8 ?_
  refine lv_iload_n hx hb dX0_cavesWithout_11 rfl (lv_at hl 1 rfl) ?_
  refine g_callM (M := m_X1_shut u1 (z + 5) a 0) hD hS hA (va_runV (As := [.int a]) (rest := []) ⟨hx, hb, hml, hown, hts⟩ (c_X1_shut l D cs ad u1 H.size (z + 5) (kd_2_1 hz) a 0 (by rw [hu1]; exact (cv_0 I z q0).1.2.1) (by decide)) (cwV 1 hts gX0_cavesWithout_X1_shut rfl rfl rfl (by decide +kernel) ⟨Nat.le_of_ble_eq_true rfl, Nat.le_of_ble_eq_true rfl⟩) (g_preV hP hD hK hN (k := (z + 5)) (kd_2_1 hz) (by decide) rfl rfl rfl rfl) rfl rfl hl.1 rfl (lv_room (Nat.le_of_ble_eq_true rfl)) dX0_cavesWithout_12 ⟨Nat.le_of_ble_eq_true rfl, Nat.le_of_ble_eq_true rfl⟩) (fun u2 H locs hu2 hP hD hS => ?_)
  obtain ⟨n6, q6, hcv⟩ := cv_shut (I := I) (z := z) (q := q0) ha
  rw [← hu1, ← hM0] at hcv
  refine lv_iconst (v := nI 0) hx hb dX0_cavesWithout_15 (by decide) ?_
  refine lv_istore_n (lv' := [(2, .int (nI 0)), (0, .ref (ad z)), (1, .int a)]) hx hb dX0_cavesWithout_16 rfl hl (by decide) rfl (fun ls hl => ?_)
  refine lv_iconst (v := nI 0) hx hb dX0_cavesWithout_17 (by decide) ?_
  refine lv_istore_n (lv' := [(3, .int (nI 0)), (2, .int (nI 0)), (0, .ref (ad z)), (1, .int a)]) hx hb dX0_cavesWithout_18 rfl hl (by decide) rfl (fun ls hl => ?_)
  suffices KL19 : ∀ (fuel : Nat) (i : Nat) (n : Nat) (q : Nat → Nat) (v : Mm) (f : Int32) (H : Heap) (locs : List Loc) (ls : Array Slot), (i ≤ 256) → (CV I z (cvm I z M0 i) n q v) → (f = nI (cvs (opn I z) M0 i)) → 256 - i < fuel → va_P D vwCl (gw kC cs ad v) H → va_D (gA kC ad sz) (gw kC cs ad v) → va_S (gA kC ad sz) s.heap H locs → lv_has ls 4 [(3, .int (nI i)), (2, .int f), (0, .ref (ad z)), (1, .int a)] → W pg l e ({ frames := 2, cells := 0, slots := 0, locals := 49 }) s m args below meth c H locs 0 0 (MQ below (va_Qi (fun r u => EqX z u I ∧ (∃ n q, RQ u (z + 5) n q) ∧ r = nI (cvs (opn I z) (fun c => a = nI c) 256)) (wat kC cs D ad (gA kC ad sz)) (gA kC ad sz)) args s 0 0 (gA kC ad sz)) (F0 m 19 ls []) from KL19 _ 0 n6 q6 u2 (nI 0) _ _ _ (by omega) (by rw [hu2]; exact hcv) rfl (Nat.lt_succ_self _) hP hD hS (lv_sub hl [0, 1, 2, 3] rfl)
  intro fuel19
  induction fuel19 with
  | zero => intro _ _ _ _ _ _ _ _ _ _ _ hm; exact absurd hm (Nat.not_lt_zero _)
  | succ fuel19 ih19 =>
    intro i n q v f H locs ls hi hcv hf hm19 hP hD hS hl
    refine lv_iload_n hx hb dX0_cavesWithout_19 rfl (lv_at hl 0 rfl) ?_
    refine lv_sipush (v := nI 256) hx hb dX0_cavesWithout_20 (by decide) ?_
    refine lv_icmp_ge (tgt := 80) hx hb dX0_cavesWithout_23 (by decide) (fun c_3 => ?_) (fun c_3 => ?_)
    · skip
      have nc_3 : 256 ≤ i := (nI_leI (a := 256) (b := i) (by omega) (by omega)).mp c_3
      refine lv_iload_n hx hb dX0_cavesWithout_80 rfl (lv_at hl 1 rfl) ?_
      exact g_iret (v := f) hx hb hr hlocks rfl hP hD hS ⟨hcv.2.2.1, ⟨n, q, hcv.1⟩, by rw [hf, show i = 256 from by omega, hM0]⟩ dX0_cavesWithout_81
    · skip
      have nc_3 : ¬ 256 ≤ i := fun z9_ => c_3 ((nI_leI (a := 256) (b := i) (by omega) (by omega)).mpr z9_)
      refine lv_aload_n hx hb dX0_cavesWithout_26 rfl (lv_at hl 2 rfl) ?_
      refine g_get (κ := 2) (ci := 0) (v := .ref (ad (z + 1))) (C := RX0) (T := TX0) (N := 7) hx hb hts hown hK hP (k := z) hz (by decide) rfl (fun _ h => List.mem_cons_of_mem _ (List.mem_append_left _ (List.mem_append_left _ (List.mem_append_right _ h)))) rfl 0 (by decide) (hts _ (List.mem_of_getElem? (i := 2) rfl)) (fun _ h9 => h9) rfl dX0_cavesWithout_27 ?_
      refine lv_iload_n hx hb dX0_cavesWithout_30 rfl (lv_at hl 0 rfl) ?_
      refine g_callF (F := f_X3_isOpen v (z + 1) (nI i)) hD hS hA (va_runV (As := [.int (nI i)]) (rest := []) ⟨hx, hb, hml, hown, hts⟩ (c_X3_isOpen l D cs ad v H.size (z + 1) (kd_2_0 hz) (nI i)) (cwV 1 hts gX0_cavesWithout_X3_isOpen rfl rfl rfl (by decide +kernel) ⟨Nat.le_of_ble_eq_true rfl, Nat.le_of_ble_eq_true rfl⟩) (g_preV hP hD hK hN (k := (z + 1)) (kd_2_0 hz) (by decide) rfl rfl rfl rfl) rfl rfl hl.1 rfl (lv_room (Nat.le_of_ble_eq_true rfl)) dX0_cavesWithout_31 ⟨Nat.le_of_ble_eq_true rfl, Nat.le_of_ble_eq_true rfl⟩) (fun H locs hP hD hS => ?_)
      refine lv_if_eq (tgt := 74) hx hb dX0_cavesWithout_34 (by decide) (fun c_4 => ?_) (fun c_4 => ?_)
      · skip
        refine lv_iinc (v := nI (i + 1)) (lv' := [(3, .int (nI (i + 1))), (2, .int f), (0, .ref (ad z)), (1, .int a)]) hx hb dX0_cavesWithout_74 hl (k := 0) rfl (nI_1 i) (by decide) rfl (fun ls hl => ?_)
        refine lv_goto (tgt := 19) hx hb dX0_cavesWithout_77 (by decide) ?_
        have hno : ¬ (opn I z i ∧ ¬ cvm I z M0 i i) := fun y => cv_on hcv (by omega) c_4 y.1
        exact ih19 (i + 1) n q v f _ _ _ (by omega) (cv_cg hcv (fun c _ => mkM_n hno c)) (by rw [cvs_n hno]; exact hf) (by omega) hP hD hS (lv_sub hl [0, 1, 2, 3] rfl)
      · skip
        refine lv_aload_n hx hb dX0_cavesWithout_37 rfl (lv_at hl 2 rfl) ?_
        refine g_get (κ := 2) (ci := 0) (v := .ref (ad (z + 5))) (C := RX0) (T := TX0) (N := 7) hx hb hts hown hK hP (k := z) hz (by decide) rfl (fun _ h => List.mem_cons_of_mem _ (List.mem_append_left _ (List.mem_append_left _ (List.mem_append_right _ h)))) rfl 1 (by decide) (hts _ (List.mem_of_getElem? (i := 1) rfl)) (fun _ h9 => h9) rfl dX0_cavesWithout_38 ?_
        refine lv_iload_n hx hb dX0_cavesWithout_41 rfl (lv_at hl 0 rfl) ?_
        refine g_callF (F := f_X1_holds v (z + 5) (nI i)) hD hS hA (va_runV (As := [.int (nI i)]) (rest := []) ⟨hx, hb, hml, hown, hts⟩ (c_X1_holds l D cs ad v H.size (z + 5) (kd_2_1 hz) (nI i)) (cwV 1 hts gX0_cavesWithout_X1_holds rfl rfl rfl (by decide +kernel) ⟨Nat.le_of_ble_eq_true rfl, Nat.le_of_ble_eq_true rfl⟩) (g_preV hP hD hK hN (k := (z + 5)) (kd_2_1 hz) (by decide) rfl rfl rfl rfl) rfl rfl hl.1 rfl (lv_room (Nat.le_of_ble_eq_true rfl)) dX0_cavesWithout_42 ⟨Nat.le_of_ble_eq_true rfl, Nat.le_of_ble_eq_true rfl⟩) (fun H locs hP hD hS => ?_)
        refine lv_if_ne (tgt := 74) hx hb dX0_cavesWithout_45 (by decide) (fun c_5 => ?_) (fun c_5 => ?_)
        · skip
          refine lv_iinc (v := nI (i + 1)) (lv' := [(3, .int (nI (i + 1))), (2, .int f), (0, .ref (ad z)), (1, .int a)]) hx hb dX0_cavesWithout_74 hl (k := 0) rfl (nI_1 i) (by decide) rfl (fun ls hl => ?_)
          refine lv_goto (tgt := 19) hx hb dX0_cavesWithout_77 (by decide) ?_
          have hno : ¬ (opn I z i ∧ ¬ cvm I z M0 i i) := fun y => y.2 (cv_hy hcv (by omega) c_5)
          exact ih19 (i + 1) n q v f _ _ _ (by omega) (cv_cg hcv (fun c _ => mkM_n hno c)) (by rw [cvs_n hno]; exact hf) (by omega) hP hD hS (lv_sub hl [0, 1, 2, 3] rfl)
        · skip
          refine lv_aload_n hx hb dX0_cavesWithout_48 rfl (lv_at hl 2 rfl) ?_
          refine g_get (κ := 2) (ci := 0) (v := .ref (ad (z + 5))) (C := RX0) (T := TX0) (N := 7) hx hb hts hown hK hP (k := z) hz (by decide) rfl (fun _ h => List.mem_cons_of_mem _ (List.mem_append_left _ (List.mem_append_left _ (List.mem_append_right _ h)))) rfl 1 (by decide) (hts _ (List.mem_of_getElem? (i := 1) rfl)) (fun _ h9 => h9) rfl dX0_cavesWithout_49 ?_
          refine lv_iload_n hx hb dX0_cavesWithout_52 rfl (lv_at hl 0 rfl) ?_
          refine lv_iconst (v := nI 0) hx hb dX0_cavesWithout_53 (by decide) ?_
          refine g_callM (M := m_X1_add v (z + 5) (nI i) (nI 0) n) hD hS hA (va_runV (As := [.int (nI i), .int (nI 0)]) (rest := []) ⟨hx, hb, hml, hown, hts⟩ (c_X1_add l D cs ad v H.size (z + 5) (kd_2_1 hz) (nI i) (nI 0) n hcv.1.2.1 hcv.1.1) (cwV 2 hts gX0_cavesWithout_X1_add rfl rfl rfl (by decide +kernel) ⟨Nat.le_of_ble_eq_true rfl, Nat.le_of_ble_eq_true rfl⟩) (g_preV hP hD hK hN (k := (z + 5)) (kd_2_1 hz) (by decide) rfl rfl rfl rfl) rfl rfl hl.1 rfl (lv_room (Nat.le_of_ble_eq_true rfl)) dX0_cavesWithout_54 ⟨Nat.le_of_ble_eq_true rfl, Nat.le_of_ble_eq_true rfl⟩) (fun u6 H locs hu6 hP hD hS => ?_)
          obtain ⟨n7, q7, hca⟩ := cv_add hcv (show i < 256 from by omega)
          rw [← hu6] at hca
          refine lv_aload_n hx hb dX0_cavesWithout_57 rfl (lv_at hl 2 rfl) ?_
          refine g_get (κ := 2) (ci := 0) (v := .ref (ad (z + 5))) (C := RX0) (T := TX0) (N := 7) hx hb hts hown hK hP (k := z) hz (by decide) rfl (fun _ h => List.mem_cons_of_mem _ (List.mem_append_left _ (List.mem_append_left _ (List.mem_append_right _ h)))) rfl 1 (by decide) (hts _ (List.mem_of_getElem? (i := 1) rfl)) (fun _ h9 => h9) rfl dX0_cavesWithout_58 ?_
          refine lv_aload_n hx hb dX0_cavesWithout_61 rfl (lv_at hl 2 rfl) ?_
          refine g_get (κ := 2) (ci := 0) (v := .ref (ad (z + 1))) (C := RX0) (T := TX0) (N := 7) hx hb hts hown hK hP (k := z) hz (by decide) rfl (fun _ h => List.mem_cons_of_mem _ (List.mem_append_left _ (List.mem_append_left _ (List.mem_append_right _ h)))) rfl 0 (by decide) (hts _ (List.mem_of_getElem? (i := 2) rfl)) (fun _ h9 => h9) rfl dX0_cavesWithout_62 ?_
          refine lv_sipush (v := nI 256) hx hb dX0_cavesWithout_65 (by decide) ?_
          refine g_callv hD hS hA (va_runV (As := [.ref (ad (z + 1)), .int (nI 256)]) (rest := []) ⟨hx, hb, hml, hown, hts⟩ (c_X1_spread l D cs ad u6 H.size 256 z hz (by decide) n n7 q7 hca.1) (cwV 2 hts gX0_cavesWithout_X1_spread rfl rfl rfl (by decide +kernel) ⟨Nat.le_of_ble_eq_true rfl, Nat.le_of_ble_eq_true rfl⟩) (g_preV hP hD hK hN (k := (z + 5)) (kd_2_1 hz) (by decide) rfl rfl rfl rfl) rfl rfl hl.1 rfl (lv_room (Nat.le_of_ble_eq_true rfl)) dX0_cavesWithout_68 ⟨Nat.le_of_ble_eq_true rfl, Nat.le_of_ble_eq_true rfl⟩) (fun u7 H locs hsp hP hD hS => ?_)
          obtain ⟨n9, q9, dv9, hsp⟩ := hsp
          refine lv_iinc (v := f + 1) (lv' := [(2, .int (f + 1)), (3, .int (nI i)), (0, .ref (ad z)), (1, .int a)]) hx hb dX0_cavesWithout_71 hl (k := 1) rfl rfl (by decide) rfl (fun ls hl => ?_)
          refine lv_iinc (v := nI (i + 1)) (lv' := [(3, .int (nI (i + 1))), (2, .int (f + 1)), (0, .ref (ad z)), (1, .int a)]) hx hb dX0_cavesWithout_74 hl (k := 1) rfl (nI_1 i) (by decide) rfl (fun ls hl => ?_)
          refine lv_goto (tgt := 19) hx hb dX0_cavesWithout_77 (by decide) ?_
          have hye : opn I z i ∧ ¬ cvm I z M0 i i := ⟨cv_oy hcv (by omega) c_4, cv_hn hcv (by omega) c_5⟩
          obtain ⟨hle, hcv2⟩ := cv_fin hca hsp
          exact ih19 (i + 1) n9 q9 u7 (f + 1) _ _ _ (by omega) (cv_cg hcv2 (fun c _ => ⟨fun y => y.imp id (fun y => ⟨y.2.1, y.2.2⟩), fun y => y.imp id (fun y => ⟨hye.1, y.1, y.2⟩)⟩)) (by rw [cvs_y hye, hf]; exact nI_1 _) (by omega) hP hD hS (lv_sub hl [0, 1, 2, 3] rfl)

set_option maxHeartbeats 4000000 in
set_option maxRecDepth 100000 in
theorem c_X0_largestCave (l : Launch) (D : va_G) (cs : Nat → ClassId) (ad : Nat → Nat) (I : Mm) (sz : Nat) (z : Nat) (hz : kC.getD z 0 = 2) (n0 : Nat) (q0 : Nat → Nat) (hq0 : RQ I (z + 5) n0 q0) : MetI l yX0_largestCave wsX0_largestCave ({ frames := 2, cells := 0, slots := 0, locals := 49 }) kC cs D ad I sz [.ref (ad z)] (fun r u => EqX z u I ∧ (∃ n q, RQ u (z + 5) n q) ∧ r = nI (lgst (opn I z) (fun _ => False) 256)) 0 0 := by
  refine g_met (cc := cX0_largestCave) (maxL := 4) (ret := (some .int)) (by decide) rfl (Nat.le_of_ble_eq_true rfl) ?_
  intro pg e s m args below meth c ls hx hb hr hml hts hown hlocks hsz hP hD hK hN hS hA hl
  have hown : s.vm.findClass RX0 = some m.cls := hown
  have hl : lv_has ls 4 [(0, .ref (ad z))] := hl
  refine lv_aload_n hx hb dX0_largestCave_0 rfl (lv_at hl 0 rfl) ?_
  refine g_get (κ := 2) (ci := 0) (v := .ref (ad (z + 5))) (C := RX0) (T := TX0) (N := 7) hx hb hts hown hK hP (k := z) hz (by decide) rfl (fun _ h => List.mem_cons_of_mem _ (List.mem_append_left _ (List.mem_append_left _ (List.mem_append_right _ h)))) rfl 1 (by decide) (hts _ (List.mem_of_getElem? (i := 1) rfl)) (fun _ h9 => h9) rfl dX0_largestCave_1 ?_
  refine g_callM (M := m_X1_clear I (z + 5)) hD hS hA (va_runV (As := []) (rest := []) ⟨hx, hb, hml, hown, hts⟩ (c_X1_clear l D cs ad I s.heap.size (z + 5) (kd_2_1 hz) n0 q0 hq0) (cwV 0 hts gX0_largestCave_X1_clear rfl rfl rfl (by decide +kernel) ⟨Nat.le_of_ble_eq_true rfl, Nat.le_of_ble_eq_true rfl⟩) (g_preV hP hD hK hN (k := (z + 5)) (kd_2_1 hz) (by decide) rfl rfl rfl rfl) rfl rfl hl.1 rfl (lv_room (Nat.le_of_ble_eq_true rfl)) dX0_largestCave_4 ⟨Nat.le_of_ble_eq_true rfl, Nat.le_of_ble_eq_true rfl⟩) (fun u1 H locs hu1 hP hD hS => ?_)
  refine lv_iconst (v := nI 0) hx hb dX0_largestCave_7 (by decide) ?_
  refine lv_istore_n (lv' := [(1, .int (nI 0)), (0, .ref (ad z))]) hx hb dX0_largestCave_8 rfl hl (by decide) rfl (fun ls hl => ?_)
  refine lv_iconst (v := nI 0) hx hb dX0_largestCave_9 (by decide) ?_
  refine lv_istore_n (lv' := [(2, .int (nI 0)), (1, .int (nI 0)), (0, .ref (ad z))]) hx hb dX0_largestCave_10 rfl hl (by decide) rfl (fun ls hl => ?_)
  suffices KL11 : ∀ (fuel : Nat) (i : Nat) (n : Nat) (q : Nat → Nat) (v : Mm) (gg : Nat) (H : Heap) (locs : List Loc) (ls : Array Slot), (i ≤ 256) → (CV I z (cvm I z (fun _ => False) i) n q v) → (gg = lgst (opn I z) (fun _ => False) i) → (gg ≤ 256) → 256 - i < fuel → va_P D vwCl (gw kC cs ad v) H → va_D (gA kC ad sz) (gw kC cs ad v) → va_S (gA kC ad sz) s.heap H locs → lv_has ls 4 [(2, .int (nI i)), (1, .int (nI gg)), (0, .ref (ad z))] → W pg l e ({ frames := 2, cells := 0, slots := 0, locals := 49 }) s m args below meth c H locs 0 0 (MQ below (va_Qi (fun r u => EqX z u I ∧ (∃ n q, RQ u (z + 5) n q) ∧ r = nI (lgst (opn I z) (fun _ => False) 256)) (wat kC cs D ad (gA kC ad sz)) (gA kC ad sz)) args s 0 0 (gA kC ad sz)) (F0 m 11 ls []) from KL11 _ 0 0 q0 u1 0 _ _ _ (by omega) (by rw [hu1]; exact cv_0 I z q0) rfl (by decide) (Nat.lt_succ_self _) hP hD hS (lv_sub hl [0, 1, 2] rfl)
  intro fuel11
  induction fuel11 with
  | zero => intro _ _ _ _ _ _ _ _ _ _ _ _ hm; exact absurd hm (Nat.not_lt_zero _)
  | succ fuel11 ih11 =>
    intro i n q v gg H locs ls hi hcv hg hg6 hm11 hP hD hS hl
    refine lv_iload_n hx hb dX0_largestCave_11 rfl (lv_at hl 0 rfl) ?_
    refine lv_sipush (v := nI 256) hx hb dX0_largestCave_12 (by decide) ?_
    refine lv_icmp_ge (tgt := 80) hx hb dX0_largestCave_15 (by decide) (fun c_2 => ?_) (fun c_2 => ?_)
    · skip
      have nc_2 : 256 ≤ i := (nI_leI (a := 256) (b := i) (by omega) (by omega)).mp c_2
      refine lv_iload_n hx hb dX0_largestCave_80 rfl (lv_at hl 1 rfl) ?_
      exact g_iret (v := nI gg) hx hb hr hlocks rfl hP hD hS ⟨hcv.2.2.1, ⟨n, q, hcv.1⟩, by rw [hg, show i = 256 from by omega]⟩ dX0_largestCave_81
    · skip
      have nc_2 : ¬ 256 ≤ i := fun z9_ => c_2 ((nI_leI (a := 256) (b := i) (by omega) (by omega)).mpr z9_)
      refine lv_aload_n hx hb dX0_largestCave_18 rfl (lv_at hl 2 rfl) ?_
      have hn6 := hcv.1.1
      refine g_get (κ := 2) (ci := 0) (v := .ref (ad (z + 1))) (C := RX0) (T := TX0) (N := 7) hx hb hts hown hK hP (k := z) hz (by decide) rfl (fun _ h => List.mem_cons_of_mem _ (List.mem_append_left _ (List.mem_append_left _ (List.mem_append_right _ h)))) rfl 0 (by decide) (hts _ (List.mem_of_getElem? (i := 2) rfl)) (fun _ h9 => h9) rfl dX0_largestCave_19 ?_
      refine lv_iload_n hx hb dX0_largestCave_22 rfl (lv_at hl 0 rfl) ?_
      refine g_callF (F := f_X3_isOpen v (z + 1) (nI i)) hD hS hA (va_runV (As := [.int (nI i)]) (rest := []) ⟨hx, hb, hml, hown, hts⟩ (c_X3_isOpen l D cs ad v H.size (z + 1) (kd_2_0 hz) (nI i)) (cwV 1 hts gX0_largestCave_X3_isOpen rfl rfl rfl (by decide +kernel) ⟨Nat.le_of_ble_eq_true rfl, Nat.le_of_ble_eq_true rfl⟩) (g_preV hP hD hK hN (k := (z + 1)) (kd_2_0 hz) (by decide) rfl rfl rfl rfl) rfl rfl hl.1 rfl (lv_room (Nat.le_of_ble_eq_true rfl)) dX0_largestCave_23 ⟨Nat.le_of_ble_eq_true rfl, Nat.le_of_ble_eq_true rfl⟩) (fun H locs hP hD hS => ?_)
      refine lv_if_eq (tgt := 74) hx hb dX0_largestCave_26 (by decide) (fun c_3 => ?_) (fun c_3 => ?_)
      · skip
        refine lv_iinc (v := nI (i + 1)) (lv' := [(2, .int (nI (i + 1))), (1, .int (nI gg)), (0, .ref (ad z))]) hx hb dX0_largestCave_74 hl (k := 0) rfl (nI_1 i) (by decide) rfl (fun ls hl => ?_)
        refine lv_goto (tgt := 11) hx hb dX0_largestCave_77 (by decide) ?_
        have hno : ¬ (opn I z i ∧ ¬ cvm I z (fun _ => False) i i) := fun y => cv_on hcv (by omega) c_3 y.1
        exact ih11 (i + 1) n q v gg _ _ _ (by omega) (cv_cg hcv (fun c _ => mkM_n hno c)) (by rw [lgst_n hno]; exact hg) hg6 (by omega) hP hD hS (lv_sub hl [0, 1, 2] rfl)
      · skip
        refine lv_aload_n hx hb dX0_largestCave_29 rfl (lv_at hl 2 rfl) ?_
        refine g_get (κ := 2) (ci := 0) (v := .ref (ad (z + 5))) (C := RX0) (T := TX0) (N := 7) hx hb hts hown hK hP (k := z) hz (by decide) rfl (fun _ h => List.mem_cons_of_mem _ (List.mem_append_left _ (List.mem_append_left _ (List.mem_append_right _ h)))) rfl 1 (by decide) (hts _ (List.mem_of_getElem? (i := 1) rfl)) (fun _ h9 => h9) rfl dX0_largestCave_30 ?_
        refine g_getN (κ := 4) (ci := 1) (v := .int (v (z + 5) 2)) (C := RX1) (T := TX1) (N := 4) hx hb hts hown hK hP (k := (z + 5)) (kd_2_1 hz) (by decide) rfl (fun _ h => List.mem_cons_of_mem _ (List.mem_append_left _ (List.mem_append_right _ h))) rfl 2 (by decide) (nwu0 hN) (fun _ h9 => h9) rfl dX0_largestCave_33 ?_
        rw [show v (z + 5) 2 = nI n from hcv.1.2.1]
        refine lv_istore_n (lv' := [(3, .int (nI n)), (2, .int (nI i)), (1, .int (nI gg)), (0, .ref (ad z))]) hx hb dX0_largestCave_36 rfl hl (by decide) rfl (fun ls hl => ?_)
        refine lv_aload_n hx hb dX0_largestCave_37 rfl (lv_at hl 3 rfl) ?_
        refine g_get (κ := 2) (ci := 0) (v := .ref (ad (z + 5))) (C := RX0) (T := TX0) (N := 7) hx hb hts hown hK hP (k := z) hz (by decide) rfl (fun _ h => List.mem_cons_of_mem _ (List.mem_append_left _ (List.mem_append_left _ (List.mem_append_right _ h)))) rfl 1 (by decide) (hts _ (List.mem_of_getElem? (i := 1) rfl)) (fun _ h9 => h9) rfl dX0_largestCave_38 ?_
        refine lv_iload_n hx hb dX0_largestCave_41 rfl (lv_at hl 1 rfl) ?_
        refine lv_iconst (v := nI 0) hx hb dX0_largestCave_42 (by decide) ?_
        refine g_callM (M := m_X1_add v (z + 5) (nI i) (nI 0) n) hD hS hA (va_runV (As := [.int (nI i), .int (nI 0)]) (rest := []) ⟨hx, hb, hml, hown, hts⟩ (c_X1_add l D cs ad v H.size (z + 5) (kd_2_1 hz) (nI i) (nI 0) n hcv.1.2.1 hcv.1.1) (cwV 2 hts gX0_largestCave_X1_add rfl rfl rfl (by decide +kernel) ⟨Nat.le_of_ble_eq_true rfl, Nat.le_of_ble_eq_true rfl⟩) (g_preV hP hD hK hN (k := (z + 5)) (kd_2_1 hz) (by decide) rfl rfl rfl rfl) rfl rfl hl.1 rfl (lv_room (Nat.le_of_ble_eq_true rfl)) dX0_largestCave_43 ⟨Nat.le_of_ble_eq_true rfl, Nat.le_of_ble_eq_true rfl⟩) (fun u4 H locs hu4 hP hD hS => ?_)
        obtain ⟨n7, q7, hca⟩ := cv_add hcv (show i < 256 from by omega)
        rw [← hu4] at hca
        refine lv_aload_n hx hb dX0_largestCave_46 rfl (lv_at hl 3 rfl) ?_
        refine g_get (κ := 2) (ci := 0) (v := .ref (ad (z + 5))) (C := RX0) (T := TX0) (N := 7) hx hb hts hown hK hP (k := z) hz (by decide) rfl (fun _ h => List.mem_cons_of_mem _ (List.mem_append_left _ (List.mem_append_left _ (List.mem_append_right _ h)))) rfl 1 (by decide) (hts _ (List.mem_of_getElem? (i := 1) rfl)) (fun _ h9 => h9) rfl dX0_largestCave_47 ?_
        refine lv_aload_n hx hb dX0_largestCave_50 rfl (lv_at hl 3 rfl) ?_
        refine g_get (κ := 2) (ci := 0) (v := .ref (ad (z + 1))) (C := RX0) (T := TX0) (N := 7) hx hb hts hown hK hP (k := z) hz (by decide) rfl (fun _ h => List.mem_cons_of_mem _ (List.mem_append_left _ (List.mem_append_left _ (List.mem_append_right _ h)))) rfl 0 (by decide) (hts _ (List.mem_of_getElem? (i := 2) rfl)) (fun _ h9 => h9) rfl dX0_largestCave_51 ?_
        refine lv_sipush (v := nI 256) hx hb dX0_largestCave_54 (by decide) ?_
        refine g_callv hD hS hA (va_runV (As := [.ref (ad (z + 1)), .int (nI 256)]) (rest := []) ⟨hx, hb, hml, hown, hts⟩ (c_X1_spread l D cs ad u4 H.size 256 z hz (by decide) n n7 q7 hca.1) (cwV 2 hts gX0_largestCave_X1_spread rfl rfl rfl (by decide +kernel) ⟨Nat.le_of_ble_eq_true rfl, Nat.le_of_ble_eq_true rfl⟩) (g_preV hP hD hK hN (k := (z + 5)) (kd_2_1 hz) (by decide) rfl rfl rfl rfl) rfl rfl hl.1 rfl (lv_room (Nat.le_of_ble_eq_true rfl)) dX0_largestCave_57 ⟨Nat.le_of_ble_eq_true rfl, Nat.le_of_ble_eq_true rfl⟩) (fun u5 H locs hsp hP hD hS => ?_)
        obtain ⟨n9, q9, dv9, hsp⟩ := hsp
        obtain ⟨hle, hcv2⟩ := cv_fin hca hsp
        have hn9 := hcv2.1.1
        refine lv_iload_n hx hb dX0_largestCave_60 rfl (lv_at hl 2 rfl) ?_
        refine lv_aload_n hx hb dX0_largestCave_61 rfl (lv_at hl 3 rfl) ?_
        refine g_get (κ := 2) (ci := 0) (v := .ref (ad (z + 5))) (C := RX0) (T := TX0) (N := 7) hx hb hts hown hK hP (k := z) hz (by decide) rfl (fun _ h => List.mem_cons_of_mem _ (List.mem_append_left _ (List.mem_append_left _ (List.mem_append_right _ h)))) rfl 1 (by decide) (hts _ (List.mem_of_getElem? (i := 1) rfl)) (fun _ h9 => h9) rfl dX0_largestCave_62 ?_
        refine g_getN (κ := 4) (ci := 1) (v := .int (u5 (z + 5) 2)) (C := RX1) (T := TX1) (N := 4) hx hb hts hown hK hP (k := (z + 5)) (kd_2_1 hz) (by decide) rfl (fun _ h => List.mem_cons_of_mem _ (List.mem_append_left _ (List.mem_append_right _ h))) rfl 2 (by decide) (nwu0 hN) (fun _ h9 => h9) rfl dX0_largestCave_65 ?_
        rw [show u5 (z + 5) 2 = nI n9 from hcv2.1.2.1]
        refine lv_iload_n hx hb dX0_largestCave_68 rfl (lv_at hl 0 rfl) ?_
        refine lv_isub hx hb dX0_largestCave_69 ?_
        rw [pk_sub (a := n9) (b := n) (by omega)]
        refine va_mmax hx hb (hml.trans hl.1.symm) hown (hts _ (List.mem_of_getElem? (i := 3) rfl)) (hts _ (List.mem_of_getElem? (i := 4) rfl)) (hts _ (List.mem_of_getElem? (i := 5) rfl)) (hts _ (List.mem_of_getElem? (i := 6) rfl)) (Nat.le_of_ble_eq_true rfl) (Nat.le_of_ble_eq_true rfl) (Nat.le_of_ble_eq_true rfl) (Nat.le_of_ble_eq_true rfl) dX0_largestCave_70 ?_
        rw [nI_max gg (n9 - n) (by omega) (by omega)]
        refine lv_istore_n (lv' := [(1, .int (nI (max gg (n9 - n)))), (3, .int (nI n)), (2, .int (nI i)), (0, .ref (ad z))]) hx hb dX0_largestCave_73 rfl hl (by decide) rfl (fun ls hl => ?_)
        refine lv_iinc (v := nI (i + 1)) (lv' := [(2, .int (nI (i + 1))), (1, .int (nI (max gg (n9 - n)))), (3, .int (nI n)), (0, .ref (ad z))]) hx hb dX0_largestCave_74 hl (k := 2) rfl (nI_1 i) (by decide) rfl (fun ls hl => ?_)
        refine lv_goto (tgt := 11) hx hb dX0_largestCave_77 (by decide) ?_
        have hop := cv_oy hcv (by omega) c_3
        have hcv3 : CV I z (cvm I z (fun _ => False) (i + 1)) n9 q9 u5 := cv_cg hcv2 (fun c _ => ⟨fun y => y.imp id (fun y => ⟨y.2.1, y.2.2⟩), fun y => y.imp id (fun y => ⟨hop, y.1, y.2⟩)⟩)
        exact ih11 (i + 1) n9 q9 u5 (max gg (n9 - n)) _ _ _ (by omega) hcv3 (by rw [hg, cv_n hcv, cv_n hcv3]; rfl) (by omega) (by omega) hP hD hS (lv_sub hl [0, 1, 3] rfl)

def frC (I : Mm) (z i : Nat) : Prop := I (z + 8 + (1 + i)) 4 = 0
def plC (I : Mm) (z i : Nat) : Nat := (I (z + 8 + (1 + i)) 0).toNatClampNeg
def crm (I : Mm) (z : Nat) : Nat → Nat → Prop := mkM (opn I z) (fun _ => False) (frC I z) (plC I z)
noncomputable def crs (op go : Nat → Prop) (p : Nat → Nat) (n : Nat) : Nat := cn (fun i => cd (go i ∧ ¬ mkM op (fun _ => False) go p i (p i))) n
theorem crs_n {op go : Nat → Prop} {p : Nat → Nat} {i : Nat} (h : ¬ (go i ∧ ¬ mkM op (fun _ => False) go p i (p i))) : crs op go p (i + 1) = crs op go p i := cn_f (cd_f h)
theorem crs_y {op go : Nat → Prop} {p : Nat → Nat} {i : Nat} (h : go i ∧ ¬ mkM op (fun _ => False) go p i (p i)) : crs op go p (i + 1) = crs op go p i + 1 := cn_t (cd_t h)

set_option maxHeartbeats 4000000 in
set_option maxRecDepth 100000 in
theorem c_X0_cavesWithCrew (l : Launch) (D : va_G) (cs : Nat → ClassId) (ad : Nat → Nat) (I : Mm) (sz : Nat) (z : Nat) (hz : kC.getD z 0 = 2) (N : Nat) (hw : WZ I z N) : MetI l yX0_cavesWithCrew wsX0_cavesWithCrew ({ frames := 2, cells := 0, slots := 0, locals := 49 }) kC cs D ad I sz [.ref (ad z)] (fun r u => EqX z u I ∧ (∃ n q, RQ u (z + 5) n q) ∧ r = nI (crs (opn I z) (frC I z) (plC I z) N)) 0 0 := by
  refine g_met (cc := cX0_cavesWithCrew) (maxL := 3) (ret := (some .int)) (by decide) rfl (Nat.le_of_ble_eq_true rfl) ?_
  intro pg e s m args below meth c ls hx hb hr hml hts hown hlocks hsz hP hD hK hN hS hA hl
  have hown : s.vm.findClass RX0 = some m.cls := hown
  have hl : lv_has ls 3 [(0, .ref (ad z))] := hl
  obtain ⟨hN3, hN8, ⟨n0, q0, hq0⟩, hpl⟩ := id hw
  refine lv_aload_n hx hb dX0_cavesWithCrew_0 rfl (lv_at hl 0 rfl) ?_
  refine g_get (κ := 2) (ci := 0) (v := .ref (ad (z + 5))) (C := RX0) (T := TX0) (N := 7) hx hb hts hown hK hP (k := z) hz (by decide) rfl (fun _ h => List.mem_cons_of_mem _ (List.mem_append_left _ (List.mem_append_left _ (List.mem_append_left _ (List.mem_append_right _ h))))) rfl 1 (by decide) (hts _ (List.mem_of_getElem? (i := 1) rfl)) (fun _ h9 => h9) rfl dX0_cavesWithCrew_1 ?_
  refine g_callM (M := m_X1_clear I (z + 5)) hD hS hA (va_runV (As := []) (rest := []) ⟨hx, hb, hml, hown, hts⟩ (c_X1_clear l D cs ad I s.heap.size (z + 5) (kd_2_1 hz) n0 q0 hq0) (cwV 0 hts gX0_cavesWithCrew_X1_clear rfl rfl rfl (by decide +kernel) ⟨Nat.le_of_ble_eq_true rfl, Nat.le_of_ble_eq_true rfl⟩) (g_preV hP hD hK hN (k := (z + 5)) (kd_2_1 hz) (by decide) rfl rfl rfl rfl) rfl rfl hl.1 rfl (lv_room (Nat.le_of_ble_eq_true rfl)) dX0_cavesWithCrew_4 ⟨Nat.le_of_ble_eq_true rfl, Nat.le_of_ble_eq_true rfl⟩) (fun u1 H locs hu1 hP hD hS => ?_)
  refine lv_iconst (v := nI 0) hx hb dX0_cavesWithCrew_7 (by decide) ?_
  refine lv_istore_n (lv' := [(1, .int (nI 0)), (0, .ref (ad z))]) hx hb dX0_cavesWithCrew_8 rfl hl (by decide) rfl (fun ls hl => ?_)
  refine lv_iconst (v := nI 0) hx hb dX0_cavesWithCrew_9 (by decide) ?_
  refine lv_istore_n (lv' := [(2, .int (nI 0)), (1, .int (nI 0)), (0, .ref (ad z))]) hx hb dX0_cavesWithCrew_10 rfl hl (by decide) rfl (fun ls hl => ?_)
  suffices KL11 : ∀ (fuel : Nat) (i : Nat) (n : Nat) (q : Nat → Nat) (v : Mm) (f : Int32) (H : Heap) (locs : List Loc) (ls : Array Slot), (i ≤ N) → (CV I z (crm I z i) n q v) → (f = nI (crs (opn I z) (frC I z) (plC I z) i)) → N - i < fuel → va_P D vwCl (gw kC cs ad v) H → va_D (gA kC ad sz) (gw kC cs ad v) → va_S (gA kC ad sz) s.heap H locs → lv_has ls 3 [(2, .int (nI i)), (1, .int f), (0, .ref (ad z))] → W pg l e ({ frames := 2, cells := 0, slots := 0, locals := 49 }) s m args below meth c H locs 0 0 (MQ below (va_Qi (fun r u => EqX z u I ∧ (∃ n q, RQ u (z + 5) n q) ∧ r = nI (crs (opn I z) (frC I z) (plC I z) N)) (wat kC cs D ad (gA kC ad sz)) (gA kC ad sz)) args s 0 0 (gA kC ad sz)) (F0 m 11 ls []) from KL11 _ 0 0 q0 u1 (nI 0) _ _ _ (by omega) (by rw [hu1]; exact cv_0 I z q0) rfl (Nat.lt_succ_self _) hP hD hS (lv_sub hl [0, 1, 2] rfl)
  intro fuel11
  induction fuel11 with
  | zero => intro _ _ _ _ _ _ _ _ _ _ _ hm; exact absurd hm (Nat.not_lt_zero _)
  | succ fuel11 ih11 =>
    intro i n q v f H locs ls hi hcv hf hm11 hP hD hS hl
    refine lv_iload_n hx hb dX0_cavesWithCrew_11 rfl (lv_at hl 0 rfl) ?_
    refine lv_aload_n hx hb dX0_cavesWithCrew_12 rfl (lv_at hl 2 rfl) ?_
    refine g_get (κ := 2) (ci := 0) (v := .int (v z 3)) (C := RX0) (T := TX0) (N := 7) hx hb hts hown hK hP (k := z) hz (by decide) rfl (fun _ h => List.mem_cons_of_mem _ (List.mem_append_left _ (List.mem_append_left _ (List.mem_append_left _ (List.mem_append_right _ h))))) rfl 3 (by decide) (hts _ (List.mem_of_getElem? (i := 2) rfl)) (fun _ h9 => h9) rfl dX0_cavesWithCrew_13 ?_
    rw [show v z 3 = nI N from (by rw [hcv.2.2.1 z (by omega) (by omega) (by omega)]; exact hN3)]
    refine lv_icmp_ge (tgt := 96) hx hb dX0_cavesWithCrew_16 (by decide) (fun c_2 => ?_) (fun c_2 => ?_)
    · skip
      have nc_2 : N ≤ i := (nI_leI (a := N) (b := i) (by omega) (by omega)).mp c_2
      refine lv_iload_n hx hb dX0_cavesWithCrew_96 rfl (lv_at hl 1 rfl) ?_
      exact g_iret (v := f) hx hb hr hlocks rfl hP hD hS ⟨hcv.2.2.1, ⟨n, q, hcv.1⟩, by rw [hf, show i = N from by omega]⟩ dX0_cavesWithCrew_97
    · skip
      have nc_2 : ¬ N ≤ i := fun z9_ => c_2 ((nI_leI (a := N) (b := i) (by omega) (by omega)).mpr z9_)
      obtain ⟨p, hp8, hp⟩ := hpl i (by omega)
      have hvT := vT (i := i) hcv.2.2.1
      have hpc : plC I z i = p := by rw [plC, hp]; exact nI_clamp (by omega)
      refine lv_iload_n hx hb dX0_cavesWithCrew_19 rfl (lv_at hl 0 rfl) ?_
      refine lv_bipush (v := nI 8) hx hb dX0_cavesWithCrew_20 (by decide) ?_
      refine lv_icmp_ge (tgt := 96) hx hb dX0_cavesWithCrew_22 (by decide) (fun c_3 => ?_) (fun c_3 => ?_)
      · skip
        have nc_3 : 8 ≤ i := (nI_leI (a := 8) (b := i) (by omega) (by omega)).mp c_3
        exact absurd nc_3 (by omega)
      · skip
        have nc_3 : ¬ 8 ≤ i := fun z9_ => c_3 ((nI_leI (a := 8) (b := i) (by omega) (by omega)).mpr z9_)
        refine lv_aload_n hx hb dX0_cavesWithCrew_25 rfl (lv_at hl 2 rfl) ?_
        refine g_get (κ := 2) (ci := 0) (v := .ref (ad (z + 8))) (C := RX0) (T := TX0) (N := 7) hx hb hts hown hK hP (k := z) hz (by decide) rfl (fun _ h => List.mem_cons_of_mem _ (List.mem_append_left _ (List.mem_append_left _ (List.mem_append_left _ (List.mem_append_right _ h))))) rfl 2 (by decide) (hts _ (List.mem_of_getElem? (i := 3) rfl)) (fun _ h9 => h9) rfl dX0_cavesWithCrew_26 ?_
        refine lv_iload_n hx hb dX0_cavesWithCrew_29 rfl (lv_at hl 0 rfl) ?_
        refine g_crew (i := i) hx hb hK hP (k := (z + 8)) (kd_2_2 hz) (by omega) dX0_cavesWithCrew_30 ?_
        refine g_getN (κ := 6) (ci := 4) (v := .int (v (z + 8 + (1 + i)) 4)) (C := RX4) (T := TX4) (N := 8) hx hb hts hown hK hP (k := (z + 8 + (1 + i))) (kd_crew (kd_2_2 hz) (show i < 8 from by omega)) (by decide) rfl (fun _ h => List.mem_cons_of_mem _ (List.mem_append_left _ (List.mem_append_left _ (List.mem_append_right _ h)))) rfl 4 (by decide) (nwu10 hN) (fun _ h9 => h9) rfl dX0_cavesWithCrew_31 ?_
        refine lv_if_ne (tgt := 90) hx hb dX0_cavesWithCrew_34 (by decide) (fun c_4 => ?_) (fun c_4 => ?_)
        · skip
          refine lv_iinc (v := nI (i + 1)) (lv' := [(2, .int (nI (i + 1))), (1, .int f), (0, .ref (ad z))]) hx hb dX0_cavesWithCrew_90 hl (k := 0) rfl (nI_1 i) (by decide) rfl (fun ls hl => ?_)
          refine lv_goto (tgt := 11) hx hb dX0_cavesWithCrew_93 (by decide) ?_
          have hno : ¬ (frC I z i ∧ ¬ crm I z i (plC I z i)) := fun y => c_4 (by rw [hvT]; exact y.1)
          exact ih11 (i + 1) n q v f _ _ _ (by omega) (cv_cg hcv (fun c _ => mkM_n hno c)) (by rw [crs_n hno]; exact hf) (by omega) hP hD hS (lv_sub hl [0, 1, 2] rfl)
        · skip
          refine lv_aload_n hx hb dX0_cavesWithCrew_37 rfl (lv_at hl 2 rfl) ?_
          refine g_get (κ := 2) (ci := 0) (v := .ref (ad (z + 5))) (C := RX0) (T := TX0) (N := 7) hx hb hts hown hK hP (k := z) hz (by decide) rfl (fun _ h => List.mem_cons_of_mem _ (List.mem_append_left _ (List.mem_append_left _ (List.mem_append_left _ (List.mem_append_right _ h))))) rfl 1 (by decide) (hts _ (List.mem_of_getElem? (i := 1) rfl)) (fun _ h9 => h9) rfl dX0_cavesWithCrew_38 ?_
          refine lv_aload_n hx hb dX0_cavesWithCrew_41 rfl (lv_at hl 2 rfl) ?_
          refine g_get (κ := 2) (ci := 0) (v := .ref (ad (z + 8))) (C := RX0) (T := TX0) (N := 7) hx hb hts hown hK hP (k := z) hz (by decide) rfl (fun _ h => List.mem_cons_of_mem _ (List.mem_append_left _ (List.mem_append_left _ (List.mem_append_left _ (List.mem_append_right _ h))))) rfl 2 (by decide) (hts _ (List.mem_of_getElem? (i := 3) rfl)) (fun _ h9 => h9) rfl dX0_cavesWithCrew_42 ?_
          refine lv_iload_n hx hb dX0_cavesWithCrew_45 rfl (lv_at hl 0 rfl) ?_
          refine g_crew (i := i) hx hb hK hP (k := (z + 8)) (kd_2_2 hz) (by omega) dX0_cavesWithCrew_46 ?_
          refine g_getN (κ := 6) (ci := 4) (v := .int (v (z + 8 + (1 + i)) 0)) (C := RX4) (T := TX4) (N := 8) hx hb hts hown hK hP (k := (z + 8 + (1 + i))) (kd_crew (kd_2_2 hz) (show i < 8 from by omega)) (by decide) rfl (fun _ h => List.mem_cons_of_mem _ (List.mem_append_left _ (List.mem_append_left _ (List.mem_append_right _ h)))) rfl 0 (by decide) (nwu2 hN) (fun _ h9 => h9) rfl dX0_cavesWithCrew_47 ?_
          rw [show v (z + 8 + (1 + i)) 0 = nI p from (by rw [hvT]; exact hp)]
          refine g_callF (F := f_X1_holds v (z + 5) (nI p)) hD hS hA (va_runV (As := [.int (nI p)]) (rest := []) ⟨hx, hb, hml, hown, hts⟩ (c_X1_holds l D cs ad v H.size (z + 5) (kd_2_1 hz) (nI p)) (cwV 1 hts gX0_cavesWithCrew_X1_holds rfl rfl rfl (by decide +kernel) ⟨Nat.le_of_ble_eq_true rfl, Nat.le_of_ble_eq_true rfl⟩) (g_preV hP hD hK hN (k := (z + 5)) (kd_2_1 hz) (by decide) rfl rfl rfl rfl) rfl rfl hl.1 rfl (lv_room (Nat.le_of_ble_eq_true rfl)) dX0_cavesWithCrew_50 ⟨Nat.le_of_ble_eq_true rfl, Nat.le_of_ble_eq_true rfl⟩) (fun H locs hP hD hS => ?_)
          refine lv_if_ne (tgt := 90) hx hb dX0_cavesWithCrew_53 (by decide) (fun c_5 => ?_) (fun c_5 => ?_)
          · skip
            refine lv_iinc (v := nI (i + 1)) (lv' := [(2, .int (nI (i + 1))), (1, .int f), (0, .ref (ad z))]) hx hb dX0_cavesWithCrew_90 hl (k := 0) rfl (nI_1 i) (by decide) rfl (fun ls hl => ?_)
            refine lv_goto (tgt := 11) hx hb dX0_cavesWithCrew_93 (by decide) ?_
            have hno : ¬ (frC I z i ∧ ¬ crm I z i (plC I z i)) := fun y => y.2 (by rw [hpc]; exact cv_hy hcv hp8 c_5)
            exact ih11 (i + 1) n q v f _ _ _ (by omega) (cv_cg hcv (fun c _ => mkM_n hno c)) (by rw [crs_n hno]; exact hf) (by omega) hP hD hS (lv_sub hl [0, 1, 2] rfl)
          · skip
            refine lv_aload_n hx hb dX0_cavesWithCrew_56 rfl (lv_at hl 2 rfl) ?_
            refine g_get (κ := 2) (ci := 0) (v := .ref (ad (z + 5))) (C := RX0) (T := TX0) (N := 7) hx hb hts hown hK hP (k := z) hz (by decide) rfl (fun _ h => List.mem_cons_of_mem _ (List.mem_append_left _ (List.mem_append_left _ (List.mem_append_left _ (List.mem_append_right _ h))))) rfl 1 (by decide) (hts _ (List.mem_of_getElem? (i := 1) rfl)) (fun _ h9 => h9) rfl dX0_cavesWithCrew_57 ?_
            refine lv_aload_n hx hb dX0_cavesWithCrew_60 rfl (lv_at hl 2 rfl) ?_
            refine g_get (κ := 2) (ci := 0) (v := .ref (ad (z + 8))) (C := RX0) (T := TX0) (N := 7) hx hb hts hown hK hP (k := z) hz (by decide) rfl (fun _ h => List.mem_cons_of_mem _ (List.mem_append_left _ (List.mem_append_left _ (List.mem_append_left _ (List.mem_append_right _ h))))) rfl 2 (by decide) (hts _ (List.mem_of_getElem? (i := 3) rfl)) (fun _ h9 => h9) rfl dX0_cavesWithCrew_61 ?_
            refine lv_iload_n hx hb dX0_cavesWithCrew_64 rfl (lv_at hl 0 rfl) ?_
            refine g_crew (i := i) hx hb hK hP (k := (z + 8)) (kd_2_2 hz) (by omega) dX0_cavesWithCrew_65 ?_
            refine g_getN (κ := 6) (ci := 4) (v := .int (v (z + 8 + (1 + i)) 0)) (C := RX4) (T := TX4) (N := 8) hx hb hts hown hK hP (k := (z + 8 + (1 + i))) (kd_crew (kd_2_2 hz) (show i < 8 from by omega)) (by decide) rfl (fun _ h => List.mem_cons_of_mem _ (List.mem_append_left _ (List.mem_append_left _ (List.mem_append_right _ h)))) rfl 0 (by decide) (nwu2 hN) (fun _ h9 => h9) rfl dX0_cavesWithCrew_66 ?_
            rw [show v (z + 8 + (1 + i)) 0 = nI p from (by rw [hvT]; exact hp)]
            refine lv_iconst (v := nI 0) hx hb dX0_cavesWithCrew_69 (by decide) ?_
            refine g_callM (M := m_X1_add v (z + 5) (nI p) (nI 0) n) hD hS hA (va_runV (As := [.int (nI p), .int (nI 0)]) (rest := []) ⟨hx, hb, hml, hown, hts⟩ (c_X1_add l D cs ad v H.size (z + 5) (kd_2_1 hz) (nI p) (nI 0) n hcv.1.2.1 hcv.1.1) (cwV 2 hts gX0_cavesWithCrew_X1_add rfl rfl rfl (by decide +kernel) ⟨Nat.le_of_ble_eq_true rfl, Nat.le_of_ble_eq_true rfl⟩) (g_preV hP hD hK hN (k := (z + 5)) (kd_2_1 hz) (by decide) rfl rfl rfl rfl) rfl rfl hl.1 rfl (lv_room (Nat.le_of_ble_eq_true rfl)) dX0_cavesWithCrew_70 ⟨Nat.le_of_ble_eq_true rfl, Nat.le_of_ble_eq_true rfl⟩) (fun u6 H locs hu6 hP hD hS => ?_)
            obtain ⟨n7, q7, hca⟩ := cv_add hcv hp8
            rw [← hu6] at hca
            refine lv_aload_n hx hb dX0_cavesWithCrew_73 rfl (lv_at hl 2 rfl) ?_
            refine g_get (κ := 2) (ci := 0) (v := .ref (ad (z + 5))) (C := RX0) (T := TX0) (N := 7) hx hb hts hown hK hP (k := z) hz (by decide) rfl (fun _ h => List.mem_cons_of_mem _ (List.mem_append_left _ (List.mem_append_left _ (List.mem_append_left _ (List.mem_append_right _ h))))) rfl 1 (by decide) (hts _ (List.mem_of_getElem? (i := 1) rfl)) (fun _ h9 => h9) rfl dX0_cavesWithCrew_74 ?_
            refine lv_aload_n hx hb dX0_cavesWithCrew_77 rfl (lv_at hl 2 rfl) ?_
            refine g_get (κ := 2) (ci := 0) (v := .ref (ad (z + 1))) (C := RX0) (T := TX0) (N := 7) hx hb hts hown hK hP (k := z) hz (by decide) rfl (fun _ h => List.mem_cons_of_mem _ (List.mem_append_left _ (List.mem_append_left _ (List.mem_append_left _ (List.mem_append_right _ h))))) rfl 0 (by decide) (hts _ (List.mem_of_getElem? (i := 4) rfl)) (fun _ h9 => h9) rfl dX0_cavesWithCrew_78 ?_
            refine lv_sipush (v := nI 256) hx hb dX0_cavesWithCrew_81 (by decide) ?_
            refine g_callv hD hS hA (va_runV (As := [.ref (ad (z + 1)), .int (nI 256)]) (rest := []) ⟨hx, hb, hml, hown, hts⟩ (c_X1_spread l D cs ad u6 H.size 256 z hz (by decide) n n7 q7 hca.1) (cwV 2 hts gX0_cavesWithCrew_X1_spread rfl rfl rfl (by decide +kernel) ⟨Nat.le_of_ble_eq_true rfl, Nat.le_of_ble_eq_true rfl⟩) (g_preV hP hD hK hN (k := (z + 5)) (kd_2_1 hz) (by decide) rfl rfl rfl rfl) rfl rfl hl.1 rfl (lv_room (Nat.le_of_ble_eq_true rfl)) dX0_cavesWithCrew_84 ⟨Nat.le_of_ble_eq_true rfl, Nat.le_of_ble_eq_true rfl⟩) (fun u7 H locs hsp hP hD hS => ?_)
            obtain ⟨n9, q9, dv9, hsp⟩ := hsp
            refine lv_iinc (v := f + 1) (lv' := [(1, .int (f + 1)), (2, .int (nI i)), (0, .ref (ad z))]) hx hb dX0_cavesWithCrew_87 hl (k := 1) rfl rfl (by decide) rfl (fun ls hl => ?_)
            refine lv_iinc (v := nI (i + 1)) (lv' := [(2, .int (nI (i + 1))), (1, .int (f + 1)), (0, .ref (ad z))]) hx hb dX0_cavesWithCrew_90 hl (k := 1) rfl (nI_1 i) (by decide) rfl (fun ls hl => ?_)
            refine lv_goto (tgt := 11) hx hb dX0_cavesWithCrew_93 (by decide) ?_
            have hye : frC I z i ∧ ¬ crm I z i (plC I z i) := ⟨(by rw [hvT] at c_4; exact c_4), (by rw [hpc]; exact cv_hn hcv hp8 c_5)⟩
            obtain ⟨hle, hcv2⟩ := cv_fin hca hsp
            exact ih11 (i + 1) n9 q9 u7 (f + 1) _ _ _ (by omega) (cv_cg hcv2 (fun c _ => by simp only [crm, mkM]; rw [hpc]; exact ⟨fun y => y.imp id (fun y => ⟨y.2.1, y.2.2⟩), fun y => y.imp id (fun y => ⟨hye.1, y.1, y.2⟩)⟩)) (by rw [crs_y hye, hf]; exact nI_1 _) (by omega) hP hD hS (lv_sub hl [0, 1, 2] rfl)
