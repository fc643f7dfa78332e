theorem sb_z {s s2 : State} {L : List Loc} {k n k2 n2 : Nat} (h : s.sameButNew s2 L k n) (hL : ∀ x ∈ L, s.heap.size ≤ x.base) (hk : k ≤ k2) (hn : n ≤ n2) : s.sameButNew s2 [] k2 n2 := by
  obtain ⟨h1, h2, h3, h4, h5, h6⟩ := h
  refine ⟨h1, h2, Nat.le_trans h3 (Nat.add_le_add_left hk _), h4, Nat.le_trans h5 hn, fun a c hc => ?_⟩
  obtain ⟨c', hc', hce, hsz, hout⟩ := h6 a c hc
  refine ⟨c', hc', hce, hsz, fun i hi => hout i ?_⟩
  intro hmem
  exact absurd (Array.getElem?_eq_some_iff.mp hc).1 (Nat.not_lt.mpr (hL _ hmem))
/-- the law's end, as the claim asks it -/
theorem mq_fr {below : List Frame} {E : EE} {P : Option Value → Wd → Prop} {a : Array Value} {s t : State} (h : MQ below (QC E P) a s 154 3947 (aE E) t) (hE : E.2.2 = s.heap.size) (hP : ∀ q w, P q w → q = some (.int 1)) : ∃ o, t.status = .running ∧ Ended t below o ∧ o = .returned (some (.int 1)) ∧ Framed s o t [] 600000 7302250 := by
  obtain ⟨o, h1, h2, ⟨⟨r, w2, ho, hp, hu⟩, hf⟩, L, hfe, hl⟩ := h
  refine ⟨o, h1, h2, by rw [ho, hP r w2 hp], hfe.1, hfe.2.1, ?_⟩
  exact sb_z hfe.2.2 (fun x hx => by have z := hl x hx; unfold aE at z; omega) (by decide) (by decide)
theorem va_cls {s : State} {args : Array Value} (hts : ∀ w ∈ lw_ok, w.before args s = true) : ∃ D : va_G, ∀ (k : Nat) (q : vw_C), vwCl[k]? = some q → u_Kn s q.1 q.2.1 q.2.2 (D.1 k) (D.2 k) := by
  have h : ∀ k : Nat, ∃ (cC : ClassId) (iS : Nat → Nat), ∀ q : vw_C, vwCl[k]? = some q → u_Kn s q.1 q.2.1 q.2.2 cC iS := by
    intro k
    match k with
    | 0 =>
      obtain ⟨c, i, hk⟩ := u_known hts cls0.2.1 (hts _ wl_in_X0)
      exact ⟨c, i, fun q hq => by
        have e := Option.some.inj (cls0.1.symm.trans hq)
        rw [← e]; exact hk⟩
    | 1 =>
      obtain ⟨c, i, hk⟩ := u_known hts cls1.2.1 (hts _ wl_in_X1)
      exact ⟨c, i, fun q hq => by
        have e := Option.some.inj (cls1.1.symm.trans hq)
        rw [← e]; exact hk⟩
    | 2 =>
      obtain ⟨c, i, hk⟩ := u_known hts cls2.2.1 (hts _ wl_in_X2)
      exact ⟨c, i, fun q hq => by
        have e := Option.some.inj (cls2.1.symm.trans hq)
        rw [← e]; exact hk⟩
    | 3 =>
      obtain ⟨c, i, hk⟩ := u_known hts cls3.2.1 (hts _ wl_in_X3)
      exact ⟨c, i, fun q hq => by
        have e := Option.some.inj (cls3.1.symm.trans hq)
        rw [← e]; exact hk⟩
    | 4 =>
      obtain ⟨c, i, hk⟩ := u_known hts cls4.2.1 (hts _ wl_in_X4)
      exact ⟨c, i, fun q hq => by
        have e := Option.some.inj (cls4.1.symm.trans hq)
        rw [← e]; exact hk⟩
    | 5 =>
      obtain ⟨c, i, hk⟩ := u_known hts cls5.2.1 (hts _ wl_in_X5)
      exact ⟨c, i, fun q hq => by
        have e := Option.some.inj (cls5.1.symm.trans hq)
        rw [← e]; exact hk⟩
    | 6 =>
      obtain ⟨c, i, hk⟩ := u_known hts cls6.2.1 (hts _ wl_in_X6)
      exact ⟨c, i, fun q hq => by
        have e := Option.some.inj (cls6.1.symm.trans hq)
        rw [← e]; exact hk⟩
    | 7 =>
      obtain ⟨c, i, hk⟩ := u_known hts cls7.2.1 (hts _ wl_in_X7)
      exact ⟨c, i, fun q hq => by
        have e := Option.some.inj (cls7.1.symm.trans hq)
        rw [← e]; exact hk⟩
    | 8 =>
      obtain ⟨c, i, hk⟩ := u_known hts cls8.2.1 (hts _ wl_in_X8)
      exact ⟨c, i, fun q hq => by
        have e := Option.some.inj (cls8.1.symm.trans hq)
        rw [← e]; exact hk⟩
    | 9 =>
      obtain ⟨c, i, hk⟩ := u_known hts cls9.2.1 (hts _ wl_in_X9)
      exact ⟨c, i, fun q hq => by
        have e := Option.some.inj (cls9.1.symm.trans hq)
        rw [← e]; exact hk⟩
    | 10 =>
      obtain ⟨c, i, hk⟩ := u_known hts cls10.2.1 (hts _ wl_in_X10)
      exact ⟨c, i, fun q hq => by
        have e := Option.some.inj (cls10.1.symm.trans hq)
        rw [← e]; exact hk⟩
    | k + 11 => exact ⟨0, fun _ => 0, fun q hq => by cases hq⟩
  exact ⟨(fun k => Classical.choose (h k), fun k => Classical.choose (Classical.choose_spec (h k))), fun k q hq => Classical.choose_spec (Classical.choose_spec (h k)) q hq⟩
