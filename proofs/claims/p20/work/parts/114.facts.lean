/-! what holds at the law's entry, in the words of the small machine -/
section
variable {p : Program} {s : State} {m : MethodId} {meth : Method} {c : Code} {b L : Nat} {xs : Nat → Int32}
theorem at_nw (hts : ∀ w ∈ lw_tbl, w.before #[Value.ref b] s = true) {w : Cond} (h : w ∈ lw_tbl) (ho : w.onTables = true) : va_Nw w s := va_tabs ho rfl (hts w h)
theorem at_nst (hts : ∀ w ∈ lw_tbl, w.before #[Value.ref b] s = true) : ∀ q ∈ mmNst, va_Nw (.methodLinkNest q.1 q.2.1 q.2.2.1 q.2.2.2) s := by
  have h : ∀ q ∈ mmNst, Cond.methodLinkNest q.1 q.2.1 q.2.2.1 q.2.2.2 ∈ lw_tbl := by decide +kernel
  exact fun q hq => at_nw hts (h q hq) rfl
theorem at_nsI (hts : ∀ w ∈ lw_tbl, w.before #[Value.ref b] s = true) : ∀ q ∈ mmNsI, va_Nw (.methodLinkNest q.1 q.2.1 q.2.2.1 q.2.2.2) s := by
  have h : ∀ q ∈ mmNsI, Cond.methodLinkNest q.1 q.2.1 q.2.2.1 q.2.2.2 ∈ lw_tbl := by decide +kernel
  exact fun q hq => at_nw hts (h q hq) rfl
theorem at_ng (hts : ∀ w ∈ lw_tbl, w.before #[Value.ref b] s = true) : ∀ w ∈ mmNG, va_Nw w s := by
  have h : ∀ w ∈ mmNG, w ∈ lw_tbl := by decide +kernel
  exact fun w hw => at_nw hts (h w hw) (mmNG_tab hw)
theorem at_bw (hts : ∀ w ∈ lw_tbl, w.before #[Value.ref b] s = true) : ∀ w ∈ mmBW, w.before #[Value.ref b] s = true := fun w h => hts w (List.mem_filter.mp h).1
theorem at_zq (hts : ∀ w ∈ lw_tbl, w.before #[Value.ref b] s = true) (hgv : (Jvm.Cond.and given_1 narrow_1).before #[Value.ref b] s = true) : mmZq (fun q : Nat => s.heap.size ≤ q) s s.heap := by
  have hf := flat_of_before _ hgv
  exact ⟨vx_Zqof (hts _ (by decide +kernel)) (hts _ (by decide +kernel)) (hf _ (by decide +kernel)) (fun a h1 h2 => Nat.lt_irrefl _ (Nat.lt_of_lt_of_le h1 h2)), vx_Zqof (hts _ (by decide +kernel)) (hts _ (by decide +kernel)) (hf _ (by decide +kernel)) (fun a h1 h2 => Nat.lt_irrefl _ (Nat.lt_of_lt_of_le h1 h2))⟩
end
