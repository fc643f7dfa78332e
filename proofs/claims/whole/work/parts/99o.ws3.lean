theorem nest_in : ∀ q ∈ nestW, Cond.methodLinkNest q.1 q.2.1 q.2.2.1 q.2.2.2 ∈ lw_tbl := by decide +kernel
theorem ao_in {C : String} (h : C = RX2 ∨ C = RX0 ∨ C = RX5 ∨ C = RX3) : Cond.arrayOver (.object C) ∈ lw_tbl := by
  rcases h with rfl | rfl | rfl | rfl
  · exact (by decide +kernel : Cond.arrayOver (.object RX2) ∈ lw_tbl)
  · exact (by decide +kernel : Cond.arrayOver (.object RX0) ∈ lw_tbl)
  · exact (by decide +kernel : Cond.arrayOver (.object RX5) ∈ lw_tbl)
  · exact (by decide +kernel : Cond.arrayOver (.object RX3) ∈ lw_tbl)
theorem nk_0 {s : State} {A : Array Value} (hts : ∀ w ∈ lw_tbl, w.before A s = true) : NK s := ⟨fun q hq => va_any rfl (hts _ (nest_in q hq)), va_AO.of (hts _ (ao_in (Or.inl rfl))), va_AO.of (hts _ (ao_in (Or.inr (Or.inl rfl)))), va_AO.of (hts _ (ao_in (Or.inr (Or.inr (Or.inl rfl))))), va_AO.of (hts _ (ao_in (Or.inr (Or.inr (Or.inr rfl)))))⟩
