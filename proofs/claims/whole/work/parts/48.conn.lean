section CONN
variable {op op' : Nat → Prop}
theorem conn_r (op : Nat → Prop) (a : Nat) : conn op (fun x => x = a) a := ⟨0, rfl⟩
theorem conn_tr {a b : Nat} : ∀ (d c : Nat), conn op (fun x => x = a) b → rch op (fun x => x = b) d c → conn op (fun x => x = a) c
  | 0, c, h, y => by rw [show c = b from y]; exact h
  | d + 1, c, h, y => by
    rcases y with y | ⟨ho, p, w, hp, hw, hb, y⟩
    · exact conn_tr d c h y
    · obtain ⟨e, he⟩ := conn_tr d p h y
      exact ⟨e + 1, Or.inr ⟨ho, p, w, hp, hw, hb, he⟩⟩
theorem conn_t {a b c : Nat} (h : conn op (fun x => x = a) b) (h2 : conn op (fun x => x = b) c) : conn op (fun x => x = a) c := conn_tr h2.choose c h h2.choose_spec
theorem conn_o {a c : Nat} (ha : op a) (h : conn op (fun x => x = a) c) (hc : c < 256) : op c := by
  obtain ⟨d, y⟩ := h
  exact rch_open (fun x _ e => by rw [e]; exact ha) d c hc y
theorem conn_sy {a : Nat} (ha : op a) : ∀ (d b : Nat), b < 256 → rch op (fun x => x = a) d b → conn op (fun x => x = b) a
  | 0, b, _, y => by rw [show b = a from y]; exact conn_r op a
  | d + 1, b, hb, y => by
    rcases y with y | ⟨ho, p, w, hp, hw, e, y⟩
    · exact conn_sy ha d b hb y
    · have hpo : op p := conn_o ha ⟨d, y⟩ hp
      have h1 : conn op (fun x => x = b) p := ⟨1, Or.inr ⟨hpo, b, (w + 2) % 4, hb, Nat.mod_lt _ (by decide), by rw [← e]; exact nb_inv p hp w hw (by omega), rfl⟩⟩
      exact conn_t h1 (conn_sy ha d p hp y)
theorem conn_s {a b : Nat} (ha : op a) (hb : b < 256) (h : conn op (fun x => x = a) b) : conn op (fun x => x = b) a := conn_sy ha h.choose b hb h.choose_spec
theorem conn_mo {src : Nat → Prop} (h : ∀ x, op x → op' x) : ∀ (d c : Nat), rch op src d c → rch op' src d c
  | 0, _, y => y
  | d + 1, c, y => by
    rcases y with y | ⟨ho, p, w, hp, hw, e, y⟩
    · exact Or.inl (conn_mo h d c y)
    · exact Or.inr ⟨h c ho, p, w, hp, hw, e, conn_mo h d p y⟩
/-- beyond marks that are whole caves -/
theorem conn_M {M : Nat → Prop} {a : Nat} (hM : ∀ c, c < 256 → conn op (fun x => x = a) c → ¬ M c) : ∀ (d c : Nat), c < 256 → rch op (fun x => x = a) d c → rch (fun x => op x ∧ ¬ M x) (fun x => x = a) d c
  | 0, _, _, y => y
  | d + 1, c, hc, y => by
    rcases y with y | ⟨ho, p, w, hp, hw, e, y⟩
    · exact Or.inl (conn_M hM d c hc y)
    · exact Or.inr ⟨⟨ho, hM c hc ⟨d + 1, Or.inr ⟨ho, p, w, hp, hw, e, y⟩⟩⟩, p, w, hp, hw, e, conn_M hM d p hp y⟩
theorem conn_MM {M : Nat → Prop} {a c : Nat} (hM : ∀ c, c < 256 → conn op (fun x => x = a) c → ¬ M c) (hc : c < 256) : conn (fun x => op x ∧ ¬ M x) (fun x => x = a) c ↔ conn op (fun x => x = a) c :=
  ⟨fun ⟨d, y⟩ => ⟨d, conn_mo (fun x h => h.1) d c y⟩, fun ⟨d, y⟩ => ⟨d, conn_M hM d c hc y⟩⟩
theorem mkM_ex {go : Nat → Prop} {p : Nat → Nat} {n : Nat} (hg : ∀ j, j < n → go j → p j < 256 ∧ op (p j)) : ∀ i, i ≤ n → ∀ c, c < 256 → (mkM op (fun _ => False) go p i c ↔ ∃ j, j < i ∧ go j ∧ conn op (fun x => x = p j) c)
  | 0, _, c, _ => ⟨False.elim, fun ⟨j, h, _⟩ => absurd h (Nat.not_lt_zero _)⟩
  | i + 1, hi, c, hc => by
    have ih := mkM_ex hg i (by omega)
    constructor
    · rintro (y | ⟨g, -, d, y⟩)
      · obtain ⟨j, h1, h2⟩ := (ih c hc).mp y
        exact ⟨j, by omega, h2⟩
      · exact ⟨i, by omega, g, d, conn_mo (fun x h => h.1) d c y⟩
    · rintro ⟨j, h1, h2, h3⟩
      by_cases e : j = i
      · subst e
        obtain ⟨hp, ho⟩ := hg j (by omega) h2
        by_cases hm : mkM op (fun _ => False) go p j (p j)
        · obtain ⟨q, g1, g2, g3⟩ := (ih _ hp).mp hm
          exact Or.inl ((ih c hc).mpr ⟨q, g1, g2, conn_t g3 h3⟩)
        · refine Or.inr ⟨h2, hm, (conn_MM (fun x hx y z => hm ?_) hc).mpr h3⟩
          obtain ⟨q, g1, g2, g3⟩ := (ih x hx).mp z
          exact (ih _ hp).mpr ⟨q, g1, g2, conn_t g3 (conn_s ho hx y)⟩
      · exact Or.inl ((ih c hc).mpr ⟨j, by omega, h2, h3⟩)
theorem min_ex {P : Nat → Prop} : ∀ n, P n → ∃ x, x ≤ n ∧ P x ∧ ∀ y, y < x → ¬ P y := by
  intro n
  induction n using Nat.strongRecOn with
  | ind n ih =>
    intro h
    by_cases e : ∃ y, y < n ∧ P y
    · obtain ⟨y, h1, h2⟩ := e
      obtain ⟨x, a, b⟩ := ih y h1 h2
      exact ⟨x, by omega, b⟩
    · exact ⟨n, Nat.le_refl _, h, fun y hy z => e ⟨y, hy, z⟩⟩
def rp (op : Nat → Prop) (x : Nat) : Prop := op x ∧ ∀ y, y < x → op y → ¬ conn op (fun z => z = y) x
theorem rp_mk {x : Nat} (hx : x < 256) : (op x ∧ ¬ mkC op x x) ↔ rp op x := by
  have e := mkM_ex (op := op) (go := op) (p := fun x => x) (n := x) (fun j hj h => ⟨by omega, h⟩) x (Nat.le_refl _) x hx
  refine ⟨fun y => ⟨y.1, fun q h1 h2 h3 => y.2 (e.mpr ⟨q, h1, h2, h3⟩)⟩, fun y => ⟨y.1, fun z => ?_⟩⟩
  obtain ⟨q, h1, h2, h3⟩ := e.mp z
  exact y.2 q h1 h2 h3
theorem cnC_op {x c : Nat} (hx : x < 256) (hr : rp op x) (hc : c < 256) : cnC op x c ↔ conn op (fun z => z = x) c := by
  refine conn_MM (fun q hq y z => ?_) hc
  have e := (mkM_ex (op := op) (go := op) (p := fun x => x) (n := x) (fun j hj h => ⟨by omega, h⟩) x (Nat.le_refl _) q hq).mp z
  obtain ⟨j, h1, h2, h3⟩ := e
  exact hr.2 j h1 h2 (conn_t h3 (conn_s hr.1 hq y))
noncomputable def c3 (op go : Nat → Prop) (p : Nat → Nat) (N : Nat) : Nat := cn (fun x => cd (rp op x ∧ ∃ q, q < N ∧ go q ∧ conn op (fun z => z = x) (p q))) 256
theorem c2_c3 {go : Nat → Prop} {p : Nat → Nat} {N : Nat} (hg : ∀ j, j < N → go j → p j < 256 ∧ op (p j)) : c2N op go p N 256 = c3 op go p N := cn_cg fun x hx => cd_cg (by
  rw [rp_mk hx]
  constructor
  · rintro ⟨h, q, a, b, c⟩
    exact ⟨h, q, a, b, (cnC_op hx h (hg q a b).1).mp c⟩
  · rintro ⟨h, q, a, b, c⟩
    exact ⟨h, q, a, b, (cnC_op hx h (hg q a b).1).mpr c⟩)
/-- caves with a tunneller, counted by caves or by tunnellers -/
theorem crs_c3 {go : Nat → Prop} {p : Nat → Nat} {n : Nat} (hg : ∀ j, j < n → go j → p j < 256 ∧ op (p j)) : ∀ N, N ≤ n → crs op go p N = c3 op go p N
  | 0, _ => by
    rw [show crs op go p 0 = 0 from rfl]
    refine (cn_all (fun x hx => cd_f ?_)).symm
    rintro ⟨-, q, h, -⟩
    exact absurd h (Nat.not_lt_zero _)
  | N + 1, hN => by
    have ih := crs_c3 hg N (by omega)
    have same : (∀ x, x < 256 → rp op x → go N → conn op (fun z => z = x) (p N) → ∃ q, q < N ∧ go q ∧ conn op (fun z => z = x) (p q)) → c3 op go p (N + 1) = c3 op go p N := fun h => cn_cg fun x hx => cd_cg (by
      constructor
      · rintro ⟨hr, q, a, b, c⟩
        by_cases e : q = N
        · subst e; exact ⟨hr, h x hx hr b c⟩
        · exact ⟨hr, q, by omega, b, c⟩
      · rintro ⟨hr, q, a, b⟩
        exact ⟨hr, q, by omega, b⟩)
    by_cases g : go N
    · obtain ⟨hp, ho⟩ := hg N (by omega) g
      have hm := mkM_ex hg N (by omega) (p N) hp
      by_cases k : mkM op (fun _ => False) go p N (p N)
      · obtain ⟨j, h1, h2, h3⟩ := hm.mp k
        rw [crs_n (fun y => y.2 k), ih]
        refine (same (fun x hx hr _ hc => ⟨j, h1, h2, ?_⟩)).symm
        exact conn_t hc (conn_s (hg j (by omega) h2).2 hp h3)
      · rw [crs_y ⟨g, k⟩, ih]
        obtain ⟨x0, hx0, ⟨hxo, hxc⟩, hmin⟩ := min_ex (P := fun x => op x ∧ conn op (fun z => z = x) (p N)) (p N) ⟨ho, conn_r op _⟩
        have hx : x0 < 256 := by omega
        have hr0 : rp op x0 := ⟨hxo, fun y hy hyo hc => hmin y hy ⟨hyo, conn_t hc hxc⟩⟩
        refine (cn_set (p := fun x => cd (rp op x ∧ ∃ q, q < N ∧ go q ∧ conn op (fun z => z = x) (p q))) (q := fun x => cd (rp op x ∧ ∃ q, q < N + 1 ∧ go q ∧ conn op (fun z => z = x) (p q))) (c := x0) (cd_f ?_) (cd_t ⟨hr0, N, by omega, g, hxc⟩) (fun x hxn => cd_cg ?_) hx).symm
        · rintro ⟨-, q, a, b, c⟩
          have hq := hg q (by omega) b
          exact k (hm.mpr ⟨q, a, b, conn_t (conn_s hxo hq.1 c) hxc⟩)
        · constructor
          · rintro ⟨hr, q, a, b, c⟩
            by_cases e : q = N
            · subst e
              refine absurd ?_ hxn
              rcases Nat.lt_trichotomy x x0 with z | z | z
              · exact absurd ⟨hr.1, c⟩ (hmin x z)
              · exact z
              · exact absurd (conn_t hxc (conn_s hr.1 hp c)) (hr.2 x0 z hxo)
            · exact ⟨hr, q, by omega, b, c⟩
          · rintro ⟨hr, q, a, b⟩
            exact ⟨hr, q, by omega, b⟩
    · rw [crs_n (fun y => g y.1), ih]
      exact (same (fun x _ _ y => absurd y g)).symm
/-- a cell that is shut, or not open -/
theorem mkM_cg {M0 M0' : Nat → Prop} (ho : ∀ c, c < 256 → (op c ↔ op' c)) (hM : ∀ c, c < 256 → (M0 c ↔ M0' c)) : ∀ i, i ≤ 256 → ∀ c, c < 256 → (mkM op M0 op (fun x => x) i c ↔ mkM op' M0' op' (fun x => x) i c)
  | 0, _, c, hc => hM c hc
  | i + 1, hi, c, hc => by
    have ih := mkM_cg ho hM i (by omega)
    simp only [mkM]
    rw [ih c hc, ho i (by omega), ih i (by omega), conn_cg (op := fun x => op x ∧ ¬ mkM op M0 op (fun x => x) i x) (op' := fun x => op' x ∧ ¬ mkM op' M0' op' (fun x => x) i x) (fun x hx => by rw [ho x hx, ih x hx]) (fun _ _ => Iff.rfl) hc]
theorem cvs_cg {M0 M0' : Nat → Prop} (ho : ∀ c, c < 256 → (op c ↔ op' c)) (hM : ∀ c, c < 256 → (M0 c ↔ M0' c)) : cvs op M0 256 = cvs op' M0' 256 :=
  cn_cg fun x hx => cd_cg (by rw [ho x hx, mkM_cg ho hM x (by omega) x hx])
theorem mkM_sh {c : Nat} : ∀ i x, mkM op (fun x => x = c) op (fun x => x) i x ↔ (x = c ∨ mkM (fun x => op x ∧ x ≠ c) (fun _ => False) (fun x => op x ∧ x ≠ c) (fun x => x) i x)
  | 0, x => ⟨Or.inl, fun y => y.elim id False.elim⟩
  | i + 1, x => by
    have ih := mkM_sh (c := c) i
    simp only [mkM]
    have e : (fun x => op x ∧ ¬ mkM op (fun x => x = c) op (fun x => x) i x) = (fun x => (op x ∧ x ≠ c) ∧ ¬ mkM (fun x => op x ∧ x ≠ c) (fun _ => False) (fun x => op x ∧ x ≠ c) (fun x => x) i x) := by
      funext y
      rw [ih y, not_or]
      exact propext ⟨fun h => ⟨⟨h.1, h.2.1⟩, h.2.2⟩, fun h => ⟨h.1.1, h.1.2, h.2⟩⟩
    rw [ih x, ih i, e, not_or]
    constructor
    · rintro ((h | h) | ⟨a, b, d⟩)
      · exact Or.inl h
      · exact Or.inr (Or.inl h)
      · exact Or.inr (Or.inr ⟨⟨a, b.1⟩, b.2, d⟩)
    · rintro (h | h | ⟨a, b, d⟩)
      · exact Or.inl (Or.inl h)
      · exact Or.inl (Or.inr h)
      · exact Or.inr ⟨a.1, ⟨a.2, b⟩, d⟩
theorem cvs_sh {c : Nat} : cvs op (fun x => x = c) 256 = cvs (fun x => op x ∧ x ≠ c) (fun _ => False) 256 := cn_cg fun x _ => cd_cg (by
  rw [mkM_sh, not_or]
  exact ⟨fun h => ⟨⟨h.1, h.2.1⟩, h.2.2⟩, fun h => ⟨h.1.1, h.1.2, h.2⟩⟩)
end CONN
theorem caves_eq {J : Mm} {z N : Nat} (h : IV J z N) {w : Nat} (hw : w < 3) : nI (csN (opn J z) (frC J z) (plC J z) N w 256) = cavesF J z N (nI w) := by
  have hN := h.1.2.1
  have hg : ∀ j, j < N → frC J z j → plC J z j < 256 ∧ opn J z (plC J z j) := fun j hj hf => by
    obtain ⟨p, hp, e⟩ := h.place hj
    have e2 : plC J z j = p := by rw [plC, e, nI_clamp (by omega)]
    rw [e2]; exact ⟨hp, (h.2.2.2.2.1 j hj).2.2 hf p hp e⟩
  simp only [csN, cavesF]
  rcases (show w = 0 ∨ w = 1 ∨ w = 2 from by omega) with rfl | rfl | rfl
  · rw [if_pos rfl, if_pos rfl]
    exact congrArg nI (cvs_cg (fun _ _ => Iff.rfl) (fun c hc => ⟨False.elim, fun y => nI_m1 (by omega) y.symm⟩))
  · rw [if_neg (by decide), if_pos rfl, if_neg (by decide), if_pos rfl]
  · rw [if_neg (by decide), if_neg (by decide), if_neg (by decide), if_neg (by decide), c2_c3 hg, crs_c3 hg N (Nat.le_refl _)]
theorem without_eq {J : Mm} {z N c : Nat} (hc : c < 256) (ho : opn J z c) : nI (csN (opn (wr J (z + 1 + 1) c (nI 10)) z) (frC (wr J (z + 1 + 1) c (nI 10)) z) (plC (wr J (z + 1 + 1) c (nI 10)) z) N 0 256) = withoutF J z c := by
  simp only [csN, withoutF]
  rw [if_pos trivial, if_pos ho]
  refine congrArg nI ?_
  rw [cvs_cg (op := opn J z) (op' := opn J z) (M0 := fun x => nI c = nI x) (M0' := fun x => x = c) (fun _ _ => Iff.rfl) (fun x hx => ⟨fun y => ((nI_eq (by omega) (by omega)).mp y).symm, fun y => by rw [y]⟩), cvs_sh]
  refine cvs_cg (fun x hx => ?_) (fun _ _ => Iff.rfl)
  simp only [opn]
  by_cases e : x = c
  · subst e; rw [wr_ss]; exact ⟨fun y => absurd y (by decide), fun y => absurd rfl y.2⟩
  · rw [wr_sn _ _ _ e]; exact ⟨fun y => ⟨y, e⟩, fun y => y.1⟩
