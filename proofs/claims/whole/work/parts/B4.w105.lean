/-! BOTH SIDES, 1: what calls of one side leave of the other; the keeper's calls over its whole state. -/
section BA
variable {X : Nat × (Nat → Int32)} {d : Nat} {h : List va_E} {Q : Option Value → List va_E → Prop} {ad : Nat → Nat} {T : List Nat} {I J : List kL} {nx : Nat} {D : kD} {K : List kG} {made : Nat} {st : kS}
theorem kKp.gA {h' : List va_E} {A : Nat → Prop} {c s : Nat} (C : kKp h T I nx D K made st) (G : gr A c s h h') (hA' : ∀ k, A k → 22 < k) (hz : ∀ k, zz k → ¬ A k) : kKp h' T I nx D K made st := by
  obtain ⟨l, k0, ⟨⟨t1, ⟨g, t2, t3⟩, t4⟩, f, b, p, t5, t6⟩, CI, CR, CS, CH⟩ := C
  have e : ∀ k, k < 23 → h'[k]? = h[k]? := fun k hk => G.2.2.2 k (by omega) (fun q => by have := hA' k q; omega)
  have E := gr_ex G hz
  exact ⟨Nat.le_trans l G.1, (e 0 (by omega)).trans k0, ⟨⟨(e 1 (by omega)).trans t1, ⟨g, (e 2 (by omega)).trans t2, t3⟩, t4⟩, f, b, p, (e 3 (by omega)).trans t5, t6⟩, CI.fr (A := fun _ => True) E (e 4 (by omega)) (e 5 (by omega)), CR.fr (ey_ex E) (e 6 (by omega)) (e 7 (by omega)) (e 8 (by omega)), CS.fm (e 4 (by omega)) (fun k hk => e k (by unfold sB at hk; omega)), CH.fm (A := fun _ => True) (fun k hk => e k (by unfold hA at hk; omega)) E⟩
theorem kKp.gm {h' : List va_E} {c s : Nat} (C : kKp h T I nx D K made st) (G : gr mB c s h h') : kKp h' T I nx D K made st := C.gA G (fun k q => by unfold mB at q; omega) mB_zz
theorem cA_zz' : ∀ k, zz k → ¬ cA k := fun k q => by unfold zz at q; unfold cA; omega
theorem mKp.gk {h' : List va_E} {c s : Nat} (C : mKp h ad T J nx D K made st) (G : gr cA c s h h') : mKp h' ad T J nx D K made st := by
  obtain ⟨l, ⟨nw, pa, nc, bc, kn, c23, CA⟩, ⟨⟨g, t1, t2⟩, t3, t4⟩, W, CI, CD, CK, CS⟩ := C
  have e : ∀ k, k < 39 → 17 < k → h'[k]? = h[k]? := fun k hk hn => G.2.2.2 k (by omega) (fun q => by unfold cA at q; omega)
  have E := gr_ex G cA_zz'
  exact ⟨Nat.le_trans l G.1, ⟨nw, pa, nc, bc, kn, (e 23 (by omega) (by omega)).trans c23, CA.ex E (fun k h1 h2 => e k (by omega) (by omega))⟩, ⟨⟨g, (e 24 (by omega) (by omega)).trans t1, t2⟩, t3, t4⟩, W.ex E (e 25 (by omega) (by omega)), CI.ex E (e 26 (by omega) (by omega)), CD.ex E (e 27 (by omega) (by omega)) (e 28 (by omega) (by omega)), CK.ex E (e 29 (by omega) (by omega)), CS.ex E (e 30 (by omega) (by omega)) (e 31 (by omega) (by omega))⟩
theorem kk_drop (C : kKp h T I nx D K made st) (w : Int32) : rt_ X (d + 1) 63 0 [some (.ref 0), some (.int w), none] [] h (fun v h' => gr cA 0 0 h h' ∧ ∃ I', kKp h' T I' nx D K made st ∧ (((∀ r ∈ I, ¬ nI (lNo r) = w) ∧ v = some (.int (-2)) ∧ I' = I) ∨ ∃ (p : Nat) (r : kL), I[p]? = some r ∧ nI (lNo r) = w ∧ v = some (.int (nI (I.length - 1))) ∧ I' = I.eraseIdx p)) := by
  obtain ⟨l, k0, ⟨⟨t1, ⟨g, t2, t3⟩, t4⟩, f, b, p, t5, t6⟩, CI, CR, CS, CH⟩ := id C
  refine rt_w (kp_drop k0 CI CS w) ?_
  rintro v h' (⟨a, rfl, rfl⟩ | ⟨p', r, a, e, rfl, F, CI', Z⟩)
  · exact ⟨gr_rf, I, C, Or.inl ⟨a, rfl, rfl⟩⟩
  · have E := fr_ex F (by intro k q; unfold zz at q; unfold sB; omega)
    refine ⟨gr_mo (gr_fr F) (fun k q => by unfold sB at q; unfold cA; omega) (Nat.le_refl _) (Nat.le_refl _), I.eraseIdx p', ⟨by rw [F.1]; exact l, fr_at F (by unfold sB; omega) k0, ⟨⟨fr_at F (by unfold sB; omega) t1, ⟨g, fr_at F (by unfold sB; omega) t2, t3⟩, t4⟩, f, b, p, fr_at F (by unfold sB; omega) t5, t6⟩, CI', CR.fm F (by unfold sB; omega) (by unfold sB; omega) (by unfold sB; omega) (by intro k q; unfold zz at q; unfold sB; omega), Z.c id, CH.fm (A := fun _ => True) (fun k hk => F.2.2 k (by unfold hA at hk; unfold sB; omega)) E⟩, Or.inr ⟨p', r, a, e, rfl, rfl⟩⟩
theorem kk_best (C : kKp h T I nx D K made st) (h8 : nbn I I.length ≤ 8) (k : Int32) : rt_ X (d + 21) 111 0 [some (.ref 0), some (.int k), none, none, none] [] h (fun v h' => gr cA 0 0 h h' ∧ kKp h' T I nx D K made st ∧ bstP I D k v) := by
  obtain ⟨l, k0, ⟨⟨t1, ⟨g, t2, t3⟩, t4⟩, f, b, p, t5, t6⟩, CI, CR, CS, CH⟩ := id C
  refine rt_w (kp_best bitc k0 CI CR h8 CS k) ?_
  rintro v h' ⟨F, ⟨so, fo, SL⟩, q⟩
  have E := fr_ex F sB_zz
  exact ⟨gr_mo (gr_fr F) (fun k q => by unfold sB at q; unfold cA; omega) (Nat.le_refl _) (Nat.le_refl _), ⟨by rw [F.1]; exact l, fr_at F (by decide) k0, ⟨⟨fr_at F (by decide) t1, ⟨g, fr_at F (by decide) t2, t3⟩, t4⟩, f, b, p, fr_at F (by decide) t5, t6⟩, CI.fr (A := fun _ => True) E (F.2.2 4 (by decide)) (F.2.2 5 (by decide)), CR.fm F (by decide) (by decide) (by decide) sB_zz, SL.c, CH.fm (A := fun _ => True) (fun k hk => F.2.2 k (by unfold hA at hk; unfold sB; omega)) E⟩, q⟩
theorem kk_install {g : kG} (C : kKp h T I nx D K made st) (h8 : nbn I I.length ≤ 8) (U : uniN I) (H8 : ∀ h so fo, sL h I D so fo → so → crd fo I.length ≤ 8) (hm : made < 600) (hg : K[K.length - 1]? = some g) (hw cu : Int32) : rt_ X (d + 21) 72 0 [some (.ref 0), some (.int hw), some (.int cu), none] [] h (fun v h' => (¬ hw = 0 ∧ ¬ hw = 1 ∧ v = some (.int (-1)) ∧ h' = h) ∨ ((hw = 0 ∨ hw = 1) ∧ gr cA 5 40 h h' ∧ ∃ K' made' st', kKp h' T I nx D K' made' st' ∧ insP I D K made st g hw cu v K' made' st')) := by
  obtain ⟨l, k0, ⟨⟨t1, ⟨tg, t2, t3⟩, t4⟩, f, b, p, t5, t6⟩, CI, CR, CS, CH⟩ := id C
  refine rt_w (kp_install l k0 CI CR h8 U CS H8 CH hm hg hw cu) ?_
  rintro v h' (q | ⟨q, G, ⟨so, fo, SL⟩, K', made', st', CH', q2⟩)
  · exact Or.inl q
  · have hz : ∀ k, zz k → ¬ (sB k ∨ hA k) := fun k q => by unfold zz at q; unfold sB hA; omega
    have E := gr_ex G hz
    have e : ∀ k, k < 39 → ¬ (sB k ∨ hA k) → h'[k]? = h[k]? := fun k hk hn => G.2.2.2 k (by omega) hn
    exact Or.inr ⟨q, gr_mo G (fun k q => by unfold sB hA at q; unfold cA; omega) (Nat.le_refl _) (Nat.le_refl _), K', made', st', ⟨Nat.le_trans l G.1, (e 0 (by omega) (by decide)).trans k0, ⟨⟨(e 1 (by omega) (by decide)).trans t1, ⟨tg, (e 2 (by omega) (by decide)).trans t2, t3⟩, t4⟩, f, b, p, (e 3 (by omega) (by decide)).trans t5, t6⟩, CI.fr (A := fun _ => True) E (e 4 (by omega) (by decide)) (e 5 (by omega) (by decide)), CR.fr (ey_ex E) (e 6 (by omega) (by decide)) (e 7 (by omega) (by decide)) (e 8 (by omega) (by decide)), SL.c, CH'⟩, q2⟩
theorem kk_rollback (C : kKp h T I nx D K made st) (cu : Int32) : rt_ X (d + 3) 108 0 [some (.ref 0), some (.int cu)] [] h (fun v h' => gr cA 0 0 h h' ∧ ∃ K' st', kKp h' T I nx D K' made st' ∧ rbR K st cu v K' st') := by
  obtain ⟨l, k0, ⟨⟨t1, ⟨tg, t2, t3⟩, t4⟩, f, b, p, t5, t6⟩, CI, CR, CS, CH⟩ := id C
  obtain ⟨F0, hC0, k1, k4, hm6, HK⟩ := id CH
  obtain ⟨g, hg⟩ := gt_ex (show K.length - 1 < K.length by omega)
  obtain ⟨t, ht⟩ := gt_ex (show K.length - 2 < K.length by omega)
  refine rt_w (kp_rollback k0 CH hg (fun _ => ht) cu) ?_
  rintro v h' (⟨a, rfl, rfl⟩ | ⟨a, b', rfl, rfl⟩ | ⟨a, b', rfl, F, CH'⟩)
  · exact ⟨gr_rf, K, st, C, Or.inl ⟨a, rfl, rfl, rfl⟩⟩
  · exact ⟨gr_rf, K, st, C, Or.inr (Or.inl ⟨a, b', rfl, rfl, rfl⟩)⟩
  · have hz : ∀ k, zz k → ¬ hA k := fun k q => by unfold zz at q; unfold hA; omega
    have E := fr_ex F hz
    exact ⟨gr_mo (gr_fr F) (fun k q => by unfold hA at q; unfold cA; omega) (Nat.le_refl _) (Nat.le_refl _), _, _, ⟨by rw [F.1]; exact l, fr_at F (by decide) k0, ⟨⟨fr_at F (by decide) t1, ⟨tg, fr_at F (by decide) t2, t3⟩, t4⟩, f, b, p, fr_at F (by decide) t5, t6⟩, CI.fr (A := fun _ => True) E (F.2.2 4 (by decide)) (F.2.2 5 (by decide)), CR.fm F (by decide) (by decide) (by decide) hz, CS.fm (F.2.2 4 (by decide)) (fun k hk => F.2.2 k (by unfold sB at hk; unfold hA; omega)), CH'⟩, Or.inr (Or.inr ⟨a, b', g, t, hg, ht, rfl, rfl, rfl⟩)⟩
def feR (T : List Nat) (a b c d e : Int32) (v : Option Value) (T' : List Nat) : Prop := (T.length + 20 ≤ 400 ∧ v = some (.int (nI (T.length + 20))) ∧ T' = T ++ tp_20 a b c d e) ∨ (¬ T.length + 20 ≤ 400 ∧ v = some (.int (-3)) ∧ T' = T)
def enR (T : List Nat) (n : Int32) (v : Option Value) (T' : List Nat) : Prop := (en_no T n ∧ v = some (.int (-1)) ∧ T' = T) ∨ (¬ en_no T n ∧ v = some (.int n) ∧ T' = T.take n.toNatClampNeg)
theorem kk_feed (C : kKp h T I nx D K made st) (a b c e f : Int32) : rt_ X (d + 1) 13 0 [some (.ref 0), some (.int a), some (.int b), some (.int c), some (.int e), some (.int f)] [] h (fun v h' => gr cA 0 0 h h' ∧ ∃ T', kKp h' T' I nx D K made st ∧ feR T a b c e f v T') := by
  obtain ⟨l, k0, ⟨P, ff, b', p, t5, t6⟩, -⟩ := id C
  refine rt_w (pk_feed k0 P a b c e f) ?_
  rintro v h' ⟨q1, q2⟩
  by_cases z : T.length + 20 ≤ 400
  · obtain ⟨rfl, P', F⟩ := q1 z
    have G : gr tA 0 0 h h' := gr_mo (gr_fr F) (fun k q => by unfold tA; omega) (Nat.le_refl _) (Nat.le_refl _)
    exact ⟨gr_mo G tA_cA (Nat.le_refl _) (Nat.le_refl _), _, C.rd G ⟨P', ff, b', p, fr_at F (by decide) t5, t6⟩, Or.inl ⟨z, rfl, rfl⟩⟩
  · obtain ⟨rfl, rfl⟩ := q2 z
    exact ⟨gr_rf, T, C, Or.inr ⟨z, rfl, rfl⟩⟩
theorem kk_end (C : kKp h T I nx D K made st) (n : Int32) : rt_ X (d + 1) 17 0 [some (.ref 0), some (.int n)] [] h (fun v h' => gr cA 0 0 h h' ∧ ∃ T', kKp h' T' I nx D K made st ∧ enR T n v T') := by
  obtain ⟨l, k0, ⟨P, ff, b', p, t5, t6⟩, -⟩ := id C
  refine rt_w (pk_end k0 P n) ?_
  rintro v h' ⟨q1, q2⟩
  by_cases z : en_no T n
  · obtain ⟨rfl, rfl⟩ := q1 z
    exact ⟨gr_rf, T, C, Or.inl ⟨z, rfl, rfl⟩⟩
  · obtain ⟨rfl, P', F⟩ := q2 z
    have G : gr tA 0 0 h h' := gr_mo (gr_fr F) (fun k q => by unfold tA; omega) (Nat.le_refl _) (Nat.le_refl _)
    exact ⟨gr_mo G tA_cA (Nat.le_refl _) (Nat.le_refl _), _, C.rd G ⟨P', ff, b', p, fr_at F (by decide) t5, t6⟩, Or.inr ⟨z, rfl, rfl⟩⟩
/-- another tape of the reference -/
theorem mKp.tp {h' : List va_E} {T' : List Nat} (C : mKp h ad T J nx D K made st) (F : fr_ (fun z => z = 23 ∨ z = 24) h h') (d23 : ∃ nw pa nc bc kn, h[23]? = some (mo (nI T.length) nw pa (mq (nI J.length) (nI nx) (nI D.length) (nI K.length) (nI made) (nI st.length) nc bc kn)) ∧ mCa h ad J D bc kn ∧ h'[23]? = some (mo (nI T'.length) nw pa (mq (nI J.length) (nI nx) (nI D.length) (nI K.length) (nI made) (nI st.length) nc bc kn))) (M : mT h' T') : mKp h' ad T' J nx D K made st := by
  obtain ⟨l, -, -, W, CI, CD, CK, CS⟩ := C
  obtain ⟨nw, pa, nc, bc, kn, c23, CA, e23⟩ := d23
  have E := fr_ex F (fun k q => by unfold zz at q; omega)
  have e : ∀ k, ¬ (k = 23 ∨ k = 24) → h'[k]? = h[k]? := fun k hn => F.2.2 k hn
  exact ⟨by rw [F.1]; exact l, ⟨nw, pa, nc, bc, kn, e23, CA.ex E (fun k h1 h2 => e k (by omega))⟩, M, W.ex E (e 25 (by decide)), CI.ex E (e 26 (by decide)), CD.ex E (e 27 (by decide)) (e 28 (by decide)), CK.ex E (e 29 (by decide)), CS.ex E (e 30 (by decide)) (e 31 (by decide))⟩
theorem tp20_len (a b c e f : Int32) : (tp_20 a b c e f).length = 20 := rfl
theorem mm_feed (C : mKp h ad T J nx D K made st) (a b c e f : Int32) : rt_ X (d + 1) 127 0 [some (.ref 23), some (.int a), some (.int b), some (.int c), some (.int e), some (.int f)] [] h (fun v h' => gr mB 0 0 h h' ∧ ∃ T', mKp h' ad T' J nx D K made st ∧ feR T a b c e f v T') := by
  obtain ⟨l, ⟨nw, pa, nc, bc, kn, c23, CA⟩, ⟨⟨g, t1, t2⟩, t3, t4⟩, -⟩ := id C
  refine rt_w (tm_feed (m := 23) (g := 24) ⟨c23, rfl, rfl, rfl, ⟨g, t1, t2⟩, t3, t4⟩ a b c e f) ?_
  rintro v h' ⟨q1, q2⟩
  by_cases z : T.length + 20 ≤ 400
  · obtain ⟨rfl, ⟨p1, -, -, -, p5, p6, p7⟩, F⟩ := q1 z
    have el : (T ++ tp_20 a b c e f).length = T.length + 20 := by rw [List.length_append, tp20_len]
    exact ⟨gr_mo (gr_fr F) (fun k q => by unfold mB; omega) (Nat.le_refl _) (Nat.le_refl _), _, C.tp F ⟨nw, pa, nc, bc, kn, c23, CA, by rw [el]; exact p1⟩ ⟨p5, p6, p7⟩, Or.inl ⟨z, rfl, rfl⟩⟩
  · obtain ⟨rfl, rfl⟩ := q2 z
    exact ⟨gr_rf, T, C, Or.inr ⟨z, rfl, rfl⟩⟩
theorem mm_end (C : mKp h ad T J nx D K made st) (n : Int32) : rt_ X d 129 0 [some (.ref 23), some (.int n)] [] h (fun v h' => gr mB 0 0 h h' ∧ ∃ T', mKp h' ad T' J nx D K made st ∧ enR T n v T') := by
  obtain ⟨l, ⟨nw, pa, nc, bc, kn, c23, CA⟩, ⟨⟨g, t1, t2⟩, t3, t4⟩, -⟩ := id C
  refine rt_w (tm_end (m := 23) (g := 24) ⟨c23, rfl, rfl, rfl, ⟨g, t1, t2⟩, t3, t4⟩ n) ?_
  rintro v h' ⟨q1, q2⟩
  by_cases z : en_no T n
  · obtain ⟨rfl, rfl⟩ := q1 z
    exact ⟨gr_rf, T, C, Or.inl ⟨z, rfl, rfl⟩⟩
  · obtain ⟨rfl, ⟨p1, -, -, p4, p5, p6, p7⟩, F⟩ := q2 z
    have en : n = nI (T.take n.toNatClampNeg).length := by
      have : some (Value.int n) = some (.int (nI (T.take n.toNatClampNeg).length)) := p4
      injection this with this
      injection this
    have p1' : h'[23]? = some (mo n nw pa (mq (nI J.length) (nI nx) (nI D.length) (nI K.length) (nI made) (nI st.length) nc bc kn)) := p1
    rw [en] at p1'
    refine ⟨gr_mo (gr_fr F) (fun k q => by unfold mB; omega) (Nat.le_refl _) (Nat.le_refl _), T.take n.toNatClampNeg, C.tp F ⟨nw, pa, nc, bc, kn, c23, CA, ?_⟩ ⟨p5, p6, p7⟩, Or.inr ⟨z, rfl, rfl⟩⟩
    rw [← en] at p1' ⊢
    exact p1'
end BA
