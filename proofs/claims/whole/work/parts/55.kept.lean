theorem gw_len (K : List Nat) (cs : Nat → ClassId) (ad : Nat → Nat) (I : Mm) : (gw K cs ad I).length = K.length := by simp [gw]
theorem app_at {L E : va_W} {x : Nat × va_E} : (L ++ x :: E)[L.length]? = some x := by simp
theorem app_set {L E : va_W} {x y z : Nat × va_E} : ((L ++ x :: E) ++ [z]).set L.length y = L ++ y :: (E ++ [z]) := by
  rw [List.append_assoc, List.set_append_right _ _ (Nat.le_refl _), Nat.sub_self]; rfl
theorem app_lt {L E : va_W} {k : Nat} {q : Nat × va_E} (h : L[k]? = some q) : (L ++ E)[k]? = some q := by
  rw [List.getElem?_append_left (List.getElem?_eq_some_iff.mp h).1]; exact h
theorem app_last {L E : va_W} {x z : Nat × va_E} : ((L ++ x :: E) ++ [z])[(L ++ x :: E).length]? = some z := by simp
section KEPT
variable {p : Program} {l : Launch} {e : Env} {R : Room} {s : State} {m : MethodId} {args : Array Value} {below : List Frame} {meth : Method} {c : Code} {H : Heap} {locs : List Loc} {cells slots : Nat} {Q : State → Prop}
variable {cc : ByteArray} {pc : Nat} {ls : Array Slot} {rest : List Value} {D : va_G} {cs : Nat → ClassId} {ad : Nat → Nat} {I : Mm} {A : Nat → Prop} {H0 : Heap} {k qA : Nat} {f : Nat → Option Nat} {E : va_W}
/-- one of the five: dup, its number, the field, a clone of it, laid in -/
theorem kp_step {own : String} {own2 : String} {ms : List Cond} (hx : p.tables.exec = Jvm.exec) (hb : c.code = cc) (hml : c.maxLocals = ls.size) (hown : s.vm.findClass RX6 = some m.cls) (hts : ∀ w ∈ ms, w.before args s = true) (hin : ∀ w ∈ u_ws RX6 TX6 8, w ∈ ms)
    (hl1 : (Cond.methodLink RX6 152 ⟨"[I", "clone", "()Ljava/lang/Object;"⟩).before args s = true) (hl2 : (Cond.sameMethod "[I" "java/lang/Object" "clone" "()Ljava/lang/Object;").before args s = true) (hl3 : (Cond.native ⟨"java/lang/Object", "clone", "()Ljava/lang/Object;"⟩).before args s = true) (hl4 : (Cond.instanceMethod ⟨"java/lang/Object", "clone", "()Ljava/lang/Object;"⟩).before args s = true) (hl5 : (Cond.selects "[I" ⟨"[I", "clone", "()Ljava/lang/Object;"⟩ ⟨"java/lang/Object", "clone", "()Ljava/lang/Object;"⟩).before args s = true) (hl6 : va_Nw (.castable "[I" "java/lang/Cloneable") s) (hl7 : (Cond.classLink RX6 151 "[I").before args s = true)
    (hK : va_K D vwCl (tyA cs) s) (hAR : rAR s (cs 2)) (hP : va_P D vwCl (gw kM cs ad I ++ (qA, rfA f (cs 2) 5) :: E) H) (hD : va_D A (gw kM cs ad I ++ (qA, rfA f (cs 2) 5) :: E)) (hS : va_S A H0 H locs) (hA : ∀ q, H0.size ≤ q → A q) (hk : kM.getD k 0 = 10)
    {j off κ n index : Nat} {sj : Nat} (hj : j < 5) (hsj : sj < 8) (hlink : (Cond.fieldLink RX6 index "SnowMazeModel" (TX6 sj).2.1 (TX6 sj).2.2.1).before args s = true) (hsame : ∀ x, s.fieldFound? (TX6 sj).1 (TX6 sj).2.1 (TX6 sj).2.2.1 = some x → s.fieldFound? "SnowMazeModel" (TX6 sj).2.1 (TX6 sj).2.2.1 = some x) (hv : ([Value.int (I k 0), .ref (ad (k + 1)), .ref (ad (k + 2)), .ref (ad (k + 3)), .ref (ad (k + 4)), .ref (ad (k + 5)), .int (I k 6), .ref (ad (k + 6))] : List Value)[sj]? = some (.ref (ad (k + off))))
    (hko : kM.getD (k + off) 0 = κ) (h0 : κ ≠ 0) (hcw : cw cs κ (fun d => ad (k + off + d)) (I (k + off)) = .inl (cs 0, n, .inl (I (k + off)))) {mxl : Nat} {lv : List (Nat × Value)} (hlv : lv_has ls mxl lv) {kl : Nat} (hl0 : lv[kl]? = some (0, .ref (ad k)))
    (d0 : decode cc pc = .ok (.dup, 1)) (d1 : decode cc (pc + 1) = .ok (.iconst (j : Int), 1)) (d2 : decode cc (pc + 2) = .ok (.aload_n 0, 1)) (d3 : decode cc (pc + 3) = .ok (.getfield index, 3)) (d6 : decode cc (pc + 6) = .ok (.invokevirtual 152, 3)) (d9 : decode cc (pc + 9) = .ok (.checkcast 151, 3)) (d12 : decode cc (pc + 12) = .ok (.aastore, 1))
    (hf : 1 ≤ R.frames) (hlo : 40 ≤ R.locals) (hcells : cells + 1 ≤ R.cells) (hslots : slots + n ≤ R.slots)
    (kk : ∀ (q : Nat) (H1 : Heap) (locs1 : List Loc), va_P D vwCl (gw kM cs ad I ++ (qA, rfA (va_up f j (some q)) (cs 2) 5) :: (E ++ [(q, .inl (cs 0, n, .inl (I (k + off))))])) H1 → va_D A (gw kM cs ad I ++ (qA, rfA (va_up f j (some q)) (cs 2) 5) :: (E ++ [(q, .inl (cs 0, n, .inl (I (k + off))))])) → va_S A H0 H1 locs1 →
      W p l e R s m args below meth c H1 locs1 (cells + 1) (slots + n) Q (F0 m (pc + 13) ls [.ref qA])) : W p l e R s m args below meth c H locs cells slots Q (F0 m pc ls [.ref qA]) := by
  have hgk := app_lt (E := (qA, rfA f (cs 2) 5) :: E) (gw_at (K := kM) (cs := cs) (ad := ad) (I := I) hk (by decide) rfl)
  have hgo := app_lt (E := (qA, rfA f (cs 2) 5) :: E) (gw_at (K := kM) (cs := cs) (ad := ad) (I := I) hko h0 hcw)
  have hRA0 : s.vm.findClass "[I" = some (cs 0) := (hK.2 0 _ rfl).2
  refine lv_dup hx hb d0 rfl ?_
  refine lv_iconst (v := nI j) hx hb d1 (by rcases (show j = 0 ∨ j = 1 ∨ j = 2 ∨ j = 3 ∨ j = 4 from by omega) with rfl | rfl | rfl | rfl | rfl <;> decide) ?_
  refine lv_aload_n hx hb d2 rfl (lv_at hlv kl hl0) ?_
  refine va_get (ci := 6) hx hb hts hin hown hK hP k hgk rfl sj hsj hlink hsame hv d3 ?_
  refine va_clone hx hb hml hown hl1 hl2 hl3 hl4 hl5 hl6 hK hP hD hS hA (k + off) 0 hgo rfl hRA0 (va_fit (fun i _ => rfl)) hf (by simp [Value.category]; omega) hcells hslots d6 (fun q H1 hK2 hP1 hD1 hS1 => ?_)
  refine va_castA hx hb hown hl7 hP1 _ app_last hRA0 d9 ?_
  refine ra_put (i := nI j) hx hb hK hP1 hD1 hS1 (gw kM cs ad I).length 0 _ (app_lt (E := [_]) app_at) hAR rfl app_last (fun h => h.elim (nI_pos (by omega)) (fun h => by rw [nI_clamp (by omega)] at h; omega)) d12 (fun H2 locs2 hP2 hD2 hS2 => ?_)
  rw [app_set, nI_clamp (by omega)] at hP2 hD2
  exact kk q H2 locs2 hP2 hD2 hS2
end KEPT
