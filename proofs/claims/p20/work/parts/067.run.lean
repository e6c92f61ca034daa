set_option maxHeartbeats 8000000 in
theorem mmBody_all (l : Launch) (hfl : l.stackTraces = false) : ∀ f : Nat, mmBody l f
  | 0 => by
    intro p e R s m args below meth c H locs cells slots Q D G ad n y r own A S pc ls st lsR M M' o t0 cb sb _ _ _ _ _ _ _ _ _ _ _ _ _ _ _ _ _ _ _ _ _ _ _ _ hgo
    simp [mmGo] at hgo
  | f + 1 => by
    have ih := mmBody_all l hfl f
    intro p e R s m args below meth c H locs cells slots Q D G ad n y r own A S pc ls st lsR M M' o t0 cb sb hx hb hml hn hr how hown htab hts hK hZ hX hA hfr hlo h11 hc0 hs0 hcR hsR hP hD hS hL hgo hret hthr hnew
    have hmono := mmGo_mono _ _ _ _ _ _ _ _ _ _ hgo
    have hgo0 := hgo
    simp only [mmGo, hr] at hgo
    split at hgo
    · cases hgo
    · rename_i ins len hd
      split at hgo
      · rename_i hln
        split at hgo
        · rename_i pc' ls' st' M1 hs
          obtain ⟨e1, e2⟩ := mmS_same hs
          refine mm_step hx hb hml hn how hown hts hK.1 hX (fun h => ?_) ⟨by omega, by omega⟩ hP hD hS hL hd hln hs (fun lsR1 H1 locs1 hL1 hP1 hD1 hS1 => ?_)
          · have h := of_decide_eq_true h
            exact ⟨by omega, by omega⟩
          · exact ih p e R s m args below meth c H1 locs1 cells slots Q D G ad n y r own A S pc' ls' st' lsR1 M1 M' o t0 cb sb hx hb (by rw [e2]; exact hml) hn hr how hown htab hts hK hZ hX hA hfr hlo h11 (by rw [e1]; exact hc0) (by rw [e1]; exact hs0) hcR hsR hP1 hD1 hS1 hL1 hgo hret hthr hnew
        · split at hgo
          · rename_i v hE
            cases hgo
            have hl1 := mmE_len hE hln
            subst hl1
            exact hret v pc ins lsR st H locs cells slots rfl hd hE hP hD hS hc0 hs0
          · split at hgo
            · rename_i z As rest hcl
              split at hgo
              · cases hgo
              · rename_i rz hz
                split at hgo
                · rename_i hfit
                  have hl3 : len = 3 := by
                    obtain ⟨-, h | h⟩ := mmCl_spec hcl hz
                    · obtain ⟨i, k, As', rfl, -⟩ := h
                      simpa [mmLn] using hln
                    · obtain ⟨i, rfl, -⟩ := h
                      simpa [mmLn] using hln
                  subst hl3
                  split at hgo
                  · cases hgo
                  · rename_i v M1 hg1
                    have hm1 := mmGo_mono _ _ _ _ _ _ _ _ _ _ hg1
                    have hm2 := mmGo_mono _ _ _ _ _ _ _ _ _ _ hgo
                    refine mm_call (mmCon_of l hfl f ih) hx hb (hml.trans hL.1.symm) hn how hown hts hK hZ hA hfr hlo h11 hP hD hS hd hcl hz hfit hg1 (by omega) (by omega) ?_ (fun ee ce q9 H1 locs1 h => by cases h)
                    intro v2 H1 locs1 hv hP1 hS1
                    cases hv
                    have h9 := ih p e R s m args below meth c H1 locs1 (cells + (M1.2.2 - M.2.2)) (slots + 6 * (M1.2.2 - M.2.2)) Q D G ad n y r own A S (pc + 3) ls (v.toList ++ rest) lsR M1 M' o t0 cb sb hx hb hml hn hr how hown htab hts hK hZ hX hA hfr hlo h11 (by omega) (by omega) hcR hsR hP1 (mmD_any hD) hS1 hL hgo hret hthr hnew
                    have he : (v.toList ++ rest).map (mmV ad) = (v.map (mmV ad)).toList ++ rest.map (mmV ad) := by cases v <;> simp
                    rw [he] at h9
                    exact h9
                  · rename_i ee M1 hg1
                    have hm1 := mmGo_mono _ _ _ _ _ _ _ _ _ _ hg1
                    split at hgo
                    · rename_i hh
                      cases hgo
                      refine mm_call (mmCon_of l hfl f ih) hx hb (hml.trans hL.1.symm) hn how hown hts hK hZ hA hfr hlo h11 hP hD hS hd hcl hz hfit hg1 (by omega) (by omega) (fun v H1 locs1 h => by cases h) ?_
                      intro e9 ce q9 H1 locs1 h9 hce hcv hcl9 hP1 hS1
                      cases h9
                      exact hthr ee q9 ce pc lsR _ H1 locs1 _ _ rfl hh hce hcv hcl9 hP1 hS1 (by omega) (by omega)
                    · rename_i x9 t9 hh
                      split at hgo
                      · cases hgo
                      · rename_i hp hhp
                        have hm2 : M1.2.2 ≤ M'.2.2 := by
                          repeat' split at hgo
                          all_goals first
                            | (exact mmGo_mono _ _ _ _ _ _ _ _ _ _ hgo)
                            | (cases hgo; done)
                        refine mm_call (mmCon_of l hfl f ih) hx hb (hml.trans hL.1.symm) hn how hown hts hK hZ hA hfr hlo h11 hP hD hS hd hcl hz hfit hg1 (by omega) (by omega) (fun v H1 locs1 h => by cases h) ?_
                        intro e9 ce q9 H1 locs1 h9 hce hcv hcl9 hP1 hS1
                        cases h9
                        obtain ⟨pre, x, suf, h1, h2, h3, h4, h5⟩ := mmHf_spec _ hhp
                        obtain ⟨own2, ho2, hwl, hct0, he3⟩ := mmCK_all _ (mmF3_mem h4)
                        cases how.symm.trans ho2
                        have hcast : (Cond.castable (mmEx ee) (mmEx ee)).before args s = true := by
                          have h7 : Cond.castable (mmEx ee) (mmEx ee) ∈ mmNG := by
                            match ee, he3 with
                            | 0, _ => exact List.mem_of_getElem? (i := 0) rfl
                            | 1, _ => exact List.mem_of_getElem? (i := 1) rfl
                            | 2, _ => exact List.mem_of_getElem? (i := 2) rfl
                          exact va_Nw.use rfl (hK.2.2.2 _ h7)
                        refine vx_catch (own := own) (name := mmEx ee) (E := mmEx ee) hown (pre.map fun q => ⟨q.1, q.2.1, q.2.2.1, q.2.2.2⟩) ⟨x.1, x.2.1, x.2.2.1, x.2.2.2⟩ (suf.map fun q => ⟨q.1, q.2.1, q.2.2.1, q.2.2.2⟩) (by rw [htab, h1]; simp [tableOf]) ?_ (by simp [covers, h3.1, h3.2]) hct0 (hts _ hwl) hcast hce hcv hcl9 ?_
                        · intro z9 hz9
                          obtain ⟨z8, hz8, rfl⟩ := List.mem_map.mp hz9
                          rcases h5 z8 hz8 with h6 | ⟨e', hlt, hF'⟩
                          · left
                            simp only [covers, Bool.and_eq_false_iff, decide_eq_false_iff_not]
                            by_cases h7 : z8.1 ≤ pc
                            · exact Or.inr fun h8 => h6 ⟨h7, h8⟩
                            · exact Or.inl h7
                          · right
                            obtain ⟨own3, ho3, hwl3, hct3, he33⟩ := mmCK_all _ (mmF3_mem hF')
                            cases how.symm.trans ho3
                            exact absurd hlt (by have h2 := mmCK_2 _ (mmF3_mem hF'); have h2 : e' = 2 := h2; have he4 : ee < 3 := he3; omega)
                        · show W p l e R s m args below meth c H1 locs1 _ _ Q (F0 m x.2.2.1 lsR [.ref q9])
                          rw [h2]
                          split at hgo
                          · rename_i k hd9
                            split at hgo
                            · rename_i l9 hl9
                              refine lv_astore hx hb hd9 hL (mmSt1_lt hl9) rfl (fun lsR1 h' => ?_)
                              exact ih p e R s m args below meth c H1 locs1 _ _ Q D G ad n y r own A S (hp + 2) l9 [] lsR1 M1 M' o t0 cb sb hx hb (by rw [mmSt1_len hl9]; exact hml) hn hr how hown htab hts hK hZ hX hA hfr hlo h11 (by omega) (by omega) hcR hsR hP1 (mmD_any hD) hS1 (mmLR.st1 hl9 (fun h => absurd rfl h) h') hgo hret hthr hnew
                            · cases hgo
                          · rename_i k hd9
                            split at hgo
                            · rename_i l9 hl9
                              refine lv_astore_n hx hb hd9 rfl hL (mmSt1_lt hl9) rfl (fun lsR1 h' => ?_)
                              exact ih p e R s m args below meth c H1 locs1 _ _ Q D G ad n y r own A S (hp + 1) l9 [] lsR1 M1 M' o t0 cb sb hx hb (by rw [mmSt1_len hl9]; exact hml) hn hr how hown htab hts hK hZ hX hA hfr hlo h11 (by omega) (by omega) hcR hsR hP1 (mmD_any hD) hS1 (mmLR.st1 hl9 (fun h => absurd rfl h) h') hgo hret hthr hnew
                            · cases hgo
                          · cases hgo
                · cases hgo
            · split at hgo
              · rename_i i
                split at hgo
                · rename_i ee hF
                  split at hgo
                  · rename_i hc
                    obtain ⟨rfl, hh⟩ := hc
                    cases hgo
                    exact hnew ee pc lsR H locs cells slots M rfl hF hh (hL.1.trans hml.symm) rfl hP hS hc0 hs0
                  · cases hgo
                · cases hgo
              · cases hgo
      · cases hgo
theorem mmCon_all (l : Launch) (hfl : l.stackTraces = false) (f : Nat) : mmCon l f := mmCon_of l hfl f (mmBody_all l hfl f)
