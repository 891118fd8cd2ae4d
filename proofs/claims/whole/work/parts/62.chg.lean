theorem cl_push0 {μ d s : tm_M} (h : cl_I μ d s) (hd : dd_ok d) (b : Int) : cl_I (tm_ch (tm_up (tm_up μ 3 (d 0 0).toNat b) 2 1 ((d 0 0) + 1))) (tm_up (tm_up d 1 (d 0 0).toNat b) 0 0 ((d 0 0) + 1)) s := by
  obtain ⟨⟨h1, h2, h3, h4, h5, h6, h7, h8, h9⟩, hs, -⟩ := h
  have z1 := hd.1
  have z2 := hd.2.1
  have z3 := hd.2.2.2.2.1
  have z4 := hd.2.2.2.2.2.1
  refine ⟨⟨?_, ?_, ?_, ?_, ?_, ?_, ?_, ?_, ?_⟩, cl_d_same hs (fun a ha => ?_) ?_, cl_c_ch _ _⟩
  · exact ((tm_uk (by decide)).trans ((tm_uk (by decide)).trans ((tm_uk (by decide)).trans (tm_us)))).trans (tm_us).symm
  · exact ((tm_uk (by decide)).trans ((tm_uk (by decide)).trans ((tm_uk (by decide)).trans ((tm_uk (by decide)).trans (tm_uk (by decide)))))).trans (h2.trans ((tm_uj (by decide)).trans (tm_uk (by decide))).symm)
  · intro j hj
    have hj2 : (j : Int) < d 0 0 + 1 := by rw [show (tm_up (tm_up d 1 (d 0 0).toNat b) 0 0 ((d 0 0) + 1)) 0 0 = d 0 0 + 1 from tm_us] at hj; exact hj
    by_cases hc : j = (d 0 0).toNat
    · subst hc
      exact ((tm_uk (by decide)).trans ((tm_uk (by decide)).trans ((tm_uk (by decide)).trans ((tm_uk (by decide)).trans (tm_us))))).trans ((tm_uk (by decide)).trans (tm_us)).symm
    · exact ((tm_uk (by decide)).trans ((tm_uk (by decide)).trans ((tm_uk (by decide)).trans ((tm_uk (by decide)).trans (tm_uj (by omega)))))).trans ((h3 j (by omega)).trans ((tm_uk (by decide)).trans (tm_uj hc)).symm)
  · intro j hj
    have hj2 : (j : Int) < d 0 1 := by rw [show (tm_up (tm_up d 1 (d 0 0).toNat b) 0 0 ((d 0 0) + 1)) 0 1 = d 0 1 from (tm_uj (by decide)).trans (tm_uk (by decide))] at hj; exact hj
    exact ((tm_uk (by decide)).trans ((tm_uk (by decide)).trans ((tm_uk (by decide)).trans ((tm_uk (by decide)).trans (tm_uk (by decide)))))).trans ((h4 j (by omega)).trans ((tm_uk (by decide)).trans (tm_uk (by decide))).symm)
  · exact ((tm_uk (by decide)).trans ((tm_uk (by decide)).trans ((tm_uk (by decide)).trans ((tm_uk (by decide)).trans (tm_uk (by decide)))))).trans (h5.trans ((tm_uk (by decide)).trans (tm_uk (by decide))).symm)
  · exact ((tm_uk (by decide)).trans ((tm_uk (by decide)).trans ((tm_uk (by decide)).trans ((tm_uk (by decide)).trans (tm_uk (by decide)))))).trans (h6.trans ((tm_uk (by decide)).trans (tm_uk (by decide))).symm)
  · intro j hj
    have hj2 : (j : Int) < d 3 0 := by rw [show (tm_up (tm_up d 1 (d 0 0).toNat b) 0 0 ((d 0 0) + 1)) 3 0 = d 3 0 from (tm_uk (by decide)).trans (tm_uk (by decide))] at hj; exact hj
    exact ((tm_uk (by decide)).trans ((tm_uk (by decide)).trans ((tm_uk (by decide)).trans ((tm_uk (by decide)).trans (tm_uk (by decide)))))).trans ((h7 j (by omega)).trans ((tm_uk (by decide)).trans (tm_uk (by decide))).symm)
  · intro j hj
    have hj2 : (j : Int) < d 3 1 := by rw [show (tm_up (tm_up d 1 (d 0 0).toNat b) 0 0 ((d 0 0) + 1)) 3 1 = d 3 1 from (tm_uk (by decide)).trans (tm_uk (by decide))] at hj; exact hj
    exact ((tm_uk (by decide)).trans ((tm_uk (by decide)).trans ((tm_uk (by decide)).trans ((tm_uk (by decide)).trans (tm_uk (by decide)))))).trans ((h8 j (by omega)).trans ((tm_uk (by decide)).trans (tm_uk (by decide))).symm)
  · intro j hj
    exact ((tm_uk (by decide)).trans ((tm_uk (by decide)).trans ((tm_uk (by decide)).trans ((tm_uk (by decide)).trans (tm_uk (by decide)))))).trans ((h9 j hj).trans ((tm_uk (by decide)).trans (tm_uk (by decide))).symm)
  · rw [tm_ch_f (by omega), tm_uf (by omega), tm_uf (by omega)]
  · exact (tm_uj (by decide)).trans ((tm_uj (by decide)).trans ((tm_uj (by decide)).trans ((tm_uk (by decide)).trans (tm_uk (by decide)))))
theorem cl_size0 {μ d s : tm_M} (h : cl_I μ d s) (hd : dd_ok d) (v : Int) (hv : v ≤ (d 0 0)) : cl_I (tm_ch (tm_up μ 2 1 v)) (tm_up d 0 0 v) s := by
  obtain ⟨⟨h1, h2, h3, h4, h5, h6, h7, h8, h9⟩, hs, -⟩ := h
  have z1 := hd.1
  have z2 := hd.2.1
  have z3 := hd.2.2.2.2.1
  have z4 := hd.2.2.2.2.2.1
  refine ⟨⟨?_, ?_, ?_, ?_, ?_, ?_, ?_, ?_, ?_⟩, cl_d_same hs (fun a ha => ?_) ?_, cl_c_ch _ _⟩
  · exact ((tm_uk (by decide)).trans ((tm_uk (by decide)).trans ((tm_uk (by decide)).trans (tm_us)))).trans (tm_us).symm
  · exact ((tm_uk (by decide)).trans ((tm_uk (by decide)).trans ((tm_uk (by decide)).trans (tm_uk (by decide))))).trans (h2.trans (tm_uj (by decide)).symm)
  · intro j hj
    have hj2 : (j : Int) < v := by rw [show (tm_up d 0 0 v) 0 0 = v from tm_us] at hj; exact hj
    exact ((tm_uk (by decide)).trans ((tm_uk (by decide)).trans ((tm_uk (by decide)).trans (tm_uk (by decide))))).trans ((h3 j (by omega)).trans (tm_uk (by decide)).symm)
  · intro j hj
    have hj2 : (j : Int) < d 0 1 := by rw [show (tm_up d 0 0 v) 0 1 = d 0 1 from tm_uj (by decide)] at hj; exact hj
    exact ((tm_uk (by decide)).trans ((tm_uk (by decide)).trans ((tm_uk (by decide)).trans (tm_uk (by decide))))).trans ((h4 j (by omega)).trans (tm_uk (by decide)).symm)
  · exact ((tm_uk (by decide)).trans ((tm_uk (by decide)).trans ((tm_uk (by decide)).trans (tm_uk (by decide))))).trans (h5.trans (tm_uk (by decide)).symm)
  · exact ((tm_uk (by decide)).trans ((tm_uk (by decide)).trans ((tm_uk (by decide)).trans (tm_uk (by decide))))).trans (h6.trans (tm_uk (by decide)).symm)
  · intro j hj
    have hj2 : (j : Int) < d 3 0 := by rw [show (tm_up d 0 0 v) 3 0 = d 3 0 from tm_uk (by decide)] at hj; exact hj
    exact ((tm_uk (by decide)).trans ((tm_uk (by decide)).trans ((tm_uk (by decide)).trans (tm_uk (by decide))))).trans ((h7 j (by omega)).trans (tm_uk (by decide)).symm)
  · intro j hj
    have hj2 : (j : Int) < d 3 1 := by rw [show (tm_up d 0 0 v) 3 1 = d 3 1 from tm_uk (by decide)] at hj; exact hj
    exact ((tm_uk (by decide)).trans ((tm_uk (by decide)).trans ((tm_uk (by decide)).trans (tm_uk (by decide))))).trans ((h8 j (by omega)).trans (tm_uk (by decide)).symm)
  · intro j hj
    exact ((tm_uk (by decide)).trans ((tm_uk (by decide)).trans ((tm_uk (by decide)).trans (tm_uk (by decide))))).trans ((h9 j hj).trans (tm_uk (by decide)).symm)
  · rw [tm_ch_f (by omega), tm_uf (by omega)]
  · exact (tm_uj (by decide)).trans ((tm_uj (by decide)).trans ((tm_uj (by decide)).trans (tm_uk (by decide))))
theorem cl_push1 {μ d s : tm_M} (h : cl_I μ d s) (hd : dd_ok d) (b : Int) : cl_I (tm_ch (tm_up (tm_up μ 5 (d 0 1).toNat b) 4 1 ((d 0 1) + 1))) (tm_up (tm_up d 2 (d 0 1).toNat b) 0 1 ((d 0 1) + 1)) s := by
  obtain ⟨⟨h1, h2, h3, h4, h5, h6, h7, h8, h9⟩, hs, -⟩ := h
  have z1 := hd.1
  have z2 := hd.2.1
  have z3 := hd.2.2.2.2.1
  have z4 := hd.2.2.2.2.2.1
  refine ⟨⟨?_, ?_, ?_, ?_, ?_, ?_, ?_, ?_, ?_⟩, cl_d_same hs (fun a ha => ?_) ?_, cl_c_ch _ _⟩
  · exact ((tm_uk (by decide)).trans ((tm_uk (by decide)).trans ((tm_uk (by decide)).trans ((tm_uk (by decide)).trans (tm_uk (by decide)))))).trans (h1.trans ((tm_uj (by decide)).trans (tm_uk (by decide))).symm)
  · exact ((tm_uk (by decide)).trans ((tm_uk (by decide)).trans ((tm_uk (by decide)).trans (tm_us)))).trans (tm_us).symm
  · intro j hj
    have hj2 : (j : Int) < d 0 0 := by rw [show (tm_up (tm_up d 2 (d 0 1).toNat b) 0 1 ((d 0 1) + 1)) 0 0 = d 0 0 from (tm_uj (by decide)).trans (tm_uk (by decide))] at hj; exact hj
    exact ((tm_uk (by decide)).trans ((tm_uk (by decide)).trans ((tm_uk (by decide)).trans ((tm_uk (by decide)).trans (tm_uk (by decide)))))).trans ((h3 j (by omega)).trans ((tm_uk (by decide)).trans (tm_uk (by decide))).symm)
  · intro j hj
    have hj2 : (j : Int) < d 0 1 + 1 := by rw [show (tm_up (tm_up d 2 (d 0 1).toNat b) 0 1 ((d 0 1) + 1)) 0 1 = d 0 1 + 1 from tm_us] at hj; exact hj
    by_cases hc : j = (d 0 1).toNat
    · subst hc
      exact ((tm_uk (by decide)).trans ((tm_uk (by decide)).trans ((tm_uk (by decide)).trans ((tm_uk (by decide)).trans (tm_us))))).trans ((tm_uk (by decide)).trans (tm_us)).symm
    · exact ((tm_uk (by decide)).trans ((tm_uk (by decide)).trans ((tm_uk (by decide)).trans ((tm_uk (by decide)).trans (tm_uj (by omega)))))).trans ((h4 j (by omega)).trans ((tm_uk (by decide)).trans (tm_uj hc)).symm)
  · exact ((tm_uk (by decide)).trans ((tm_uk (by decide)).trans ((tm_uk (by decide)).trans ((tm_uk (by decide)).trans (tm_uk (by decide)))))).trans (h5.trans ((tm_uk (by decide)).trans (tm_uk (by decide))).symm)
  · exact ((tm_uk (by decide)).trans ((tm_uk (by decide)).trans ((tm_uk (by decide)).trans ((tm_uk (by decide)).trans (tm_uk (by decide)))))).trans (h6.trans ((tm_uk (by decide)).trans (tm_uk (by decide))).symm)
  · intro j hj
    have hj2 : (j : Int) < d 3 0 := by rw [show (tm_up (tm_up d 2 (d 0 1).toNat b) 0 1 ((d 0 1) + 1)) 3 0 = d 3 0 from (tm_uk (by decide)).trans (tm_uk (by decide))] at hj; exact hj
    exact ((tm_uk (by decide)).trans ((tm_uk (by decide)).trans ((tm_uk (by decide)).trans ((tm_uk (by decide)).trans (tm_uk (by decide)))))).trans ((h7 j (by omega)).trans ((tm_uk (by decide)).trans (tm_uk (by decide))).symm)
  · intro j hj
    have hj2 : (j : Int) < d 3 1 := by rw [show (tm_up (tm_up d 2 (d 0 1).toNat b) 0 1 ((d 0 1) + 1)) 3 1 = d 3 1 from (tm_uk (by decide)).trans (tm_uk (by decide))] at hj; exact hj
    exact ((tm_uk (by decide)).trans ((tm_uk (by decide)).trans ((tm_uk (by decide)).trans ((tm_uk (by decide)).trans (tm_uk (by decide)))))).trans ((h8 j (by omega)).trans ((tm_uk (by decide)).trans (tm_uk (by decide))).symm)
  · intro j hj
    exact ((tm_uk (by decide)).trans ((tm_uk (by decide)).trans ((tm_uk (by decide)).trans ((tm_uk (by decide)).trans (tm_uk (by decide)))))).trans ((h9 j hj).trans ((tm_uk (by decide)).trans (tm_uk (by decide))).symm)
  · rw [tm_ch_f (by omega), tm_uf (by omega), tm_uf (by omega)]
  · exact (tm_uj (by decide)).trans ((tm_uj (by decide)).trans ((tm_uj (by decide)).trans ((tm_uk (by decide)).trans (tm_uk (by decide)))))
theorem cl_size1 {μ d s : tm_M} (h : cl_I μ d s) (hd : dd_ok d) (v : Int) (hv : v ≤ (d 0 1)) : cl_I (tm_ch (tm_up μ 4 1 v)) (tm_up d 0 1 v) s := by
  obtain ⟨⟨h1, h2, h3, h4, h5, h6, h7, h8, h9⟩, hs, -⟩ := h
  have z1 := hd.1
  have z2 := hd.2.1
  have z3 := hd.2.2.2.2.1
  have z4 := hd.2.2.2.2.2.1
  refine ⟨⟨?_, ?_, ?_, ?_, ?_, ?_, ?_, ?_, ?_⟩, cl_d_same hs (fun a ha => ?_) ?_, cl_c_ch _ _⟩
  · exact ((tm_uk (by decide)).trans ((tm_uk (by decide)).trans ((tm_uk (by decide)).trans (tm_uk (by decide))))).trans (h1.trans (tm_uj (by decide)).symm)
  · exact ((tm_uk (by decide)).trans ((tm_uk (by decide)).trans ((tm_uk (by decide)).trans (tm_us)))).trans (tm_us).symm
  · intro j hj
    have hj2 : (j : Int) < d 0 0 := by rw [show (tm_up d 0 1 v) 0 0 = d 0 0 from tm_uj (by decide)] at hj; exact hj
    exact ((tm_uk (by decide)).trans ((tm_uk (by decide)).trans ((tm_uk (by decide)).trans (tm_uk (by decide))))).trans ((h3 j (by omega)).trans (tm_uk (by decide)).symm)
  · intro j hj
    have hj2 : (j : Int) < v := by rw [show (tm_up d 0 1 v) 0 1 = v from tm_us] at hj; exact hj
    exact ((tm_uk (by decide)).trans ((tm_uk (by decide)).trans ((tm_uk (by decide)).trans (tm_uk (by decide))))).trans ((h4 j (by omega)).trans (tm_uk (by decide)).symm)
  · exact ((tm_uk (by decide)).trans ((tm_uk (by decide)).trans ((tm_uk (by decide)).trans (tm_uk (by decide))))).trans (h5.trans (tm_uk (by decide)).symm)
  · exact ((tm_uk (by decide)).trans ((tm_uk (by decide)).trans ((tm_uk (by decide)).trans (tm_uk (by decide))))).trans (h6.trans (tm_uk (by decide)).symm)
  · intro j hj
    have hj2 : (j : Int) < d 3 0 := by rw [show (tm_up d 0 1 v) 3 0 = d 3 0 from tm_uk (by decide)] at hj; exact hj
    exact ((tm_uk (by decide)).trans ((tm_uk (by decide)).trans ((tm_uk (by decide)).trans (tm_uk (by decide))))).trans ((h7 j (by omega)).trans (tm_uk (by decide)).symm)
  · intro j hj
    have hj2 : (j : Int) < d 3 1 := by rw [show (tm_up d 0 1 v) 3 1 = d 3 1 from tm_uk (by decide)] at hj; exact hj
    exact ((tm_uk (by decide)).trans ((tm_uk (by decide)).trans ((tm_uk (by decide)).trans (tm_uk (by decide))))).trans ((h8 j (by omega)).trans (tm_uk (by decide)).symm)
  · intro j hj
    exact ((tm_uk (by decide)).trans ((tm_uk (by decide)).trans ((tm_uk (by decide)).trans (tm_uk (by decide))))).trans ((h9 j hj).trans (tm_uk (by decide)).symm)
  · rw [tm_ch_f (by omega), tm_uf (by omega)]
  · exact (tm_uj (by decide)).trans ((tm_uj (by decide)).trans ((tm_uj (by decide)).trans (tm_uk (by decide))))
theorem cl_push2 {μ d s : tm_M} (h : cl_I μ d s) (hd : dd_ok d) (b : Int) : cl_I (tm_ch (tm_up (tm_up μ 7 (d 3 0).toNat b) 6 1 ((d 3 0) + 1))) (tm_up (tm_up d 4 (d 3 0).toNat b) 3 0 ((d 3 0) + 1)) s := by
  obtain ⟨⟨h1, h2, h3, h4, h5, h6, h7, h8, h9⟩, hs, -⟩ := h
  have z1 := hd.1
  have z2 := hd.2.1
  have z3 := hd.2.2.2.2.1
  have z4 := hd.2.2.2.2.2.1
  refine ⟨⟨?_, ?_, ?_, ?_, ?_, ?_, ?_, ?_, ?_⟩, cl_d_same hs (fun a ha => ?_) ?_, cl_c_ch _ _⟩
  · exact ((tm_uk (by decide)).trans ((tm_uk (by decide)).trans ((tm_uk (by decide)).trans ((tm_uk (by decide)).trans (tm_uk (by decide)))))).trans (h1.trans ((tm_uk (by decide)).trans (tm_uk (by decide))).symm)
  · exact ((tm_uk (by decide)).trans ((tm_uk (by decide)).trans ((tm_uk (by decide)).trans ((tm_uk (by decide)).trans (tm_uk (by decide)))))).trans (h2.trans ((tm_uk (by decide)).trans (tm_uk (by decide))).symm)
  · intro j hj
    have hj2 : (j : Int) < d 0 0 := by rw [show (tm_up (tm_up d 4 (d 3 0).toNat b) 3 0 ((d 3 0) + 1)) 0 0 = d 0 0 from (tm_uk (by decide)).trans (tm_uk (by decide))] at hj; exact hj
    exact ((tm_uk (by decide)).trans ((tm_uk (by decide)).trans ((tm_uk (by decide)).trans ((tm_uk (by decide)).trans (tm_uk (by decide)))))).trans ((h3 j (by omega)).trans ((tm_uk (by decide)).trans (tm_uk (by decide))).symm)
  · intro j hj
    have hj2 : (j : Int) < d 0 1 := by rw [show (tm_up (tm_up d 4 (d 3 0).toNat b) 3 0 ((d 3 0) + 1)) 0 1 = d 0 1 from (tm_uk (by decide)).trans (tm_uk (by decide))] at hj; exact hj
    exact ((tm_uk (by decide)).trans ((tm_uk (by decide)).trans ((tm_uk (by decide)).trans ((tm_uk (by decide)).trans (tm_uk (by decide)))))).trans ((h4 j (by omega)).trans ((tm_uk (by decide)).trans (tm_uk (by decide))).symm)
  · exact ((tm_uk (by decide)).trans ((tm_uk (by decide)).trans ((tm_uk (by decide)).trans (tm_us)))).trans (tm_us).symm
  · exact ((tm_uk (by decide)).trans ((tm_uk (by decide)).trans ((tm_uk (by decide)).trans ((tm_uk (by decide)).trans (tm_uk (by decide)))))).trans (h6.trans ((tm_uj (by decide)).trans (tm_uk (by decide))).symm)
  · intro j hj
    have hj2 : (j : Int) < d 3 0 + 1 := by rw [show (tm_up (tm_up d 4 (d 3 0).toNat b) 3 0 ((d 3 0) + 1)) 3 0 = d 3 0 + 1 from tm_us] at hj; exact hj
    by_cases hc : j = (d 3 0).toNat
    · subst hc
      exact ((tm_uk (by decide)).trans ((tm_uk (by decide)).trans ((tm_uk (by decide)).trans ((tm_uk (by decide)).trans (tm_us))))).trans ((tm_uk (by decide)).trans (tm_us)).symm
    · exact ((tm_uk (by decide)).trans ((tm_uk (by decide)).trans ((tm_uk (by decide)).trans ((tm_uk (by decide)).trans (tm_uj (by omega)))))).trans ((h7 j (by omega)).trans ((tm_uk (by decide)).trans (tm_uj hc)).symm)
  · intro j hj
    have hj2 : (j : Int) < d 3 1 := by rw [show (tm_up (tm_up d 4 (d 3 0).toNat b) 3 0 ((d 3 0) + 1)) 3 1 = d 3 1 from (tm_uj (by decide)).trans (tm_uk (by decide))] at hj; exact hj
    exact ((tm_uk (by decide)).trans ((tm_uk (by decide)).trans ((tm_uk (by decide)).trans ((tm_uk (by decide)).trans (tm_uk (by decide)))))).trans ((h8 j (by omega)).trans ((tm_uk (by decide)).trans (tm_uk (by decide))).symm)
  · intro j hj
    exact ((tm_uk (by decide)).trans ((tm_uk (by decide)).trans ((tm_uk (by decide)).trans ((tm_uk (by decide)).trans (tm_uk (by decide)))))).trans ((h9 j hj).trans ((tm_uk (by decide)).trans (tm_uk (by decide))).symm)
  · rw [tm_ch_f (by omega), tm_uf (by omega), tm_uf (by omega)]
  · exact (tm_uj (by decide)).trans ((tm_uj (by decide)).trans ((tm_uj (by decide)).trans ((tm_uk (by decide)).trans (tm_uk (by decide)))))
theorem cl_size2 {μ d s : tm_M} (h : cl_I μ d s) (hd : dd_ok d) (v : Int) (hv : v ≤ (d 3 0)) : cl_I (tm_ch (tm_up μ 6 1 v)) (tm_up d 3 0 v) s := by
  obtain ⟨⟨h1, h2, h3, h4, h5, h6, h7, h8, h9⟩, hs, -⟩ := h
  have z1 := hd.1
  have z2 := hd.2.1
  have z3 := hd.2.2.2.2.1
  have z4 := hd.2.2.2.2.2.1
  refine ⟨⟨?_, ?_, ?_, ?_, ?_, ?_, ?_, ?_, ?_⟩, cl_d_same hs (fun a ha => ?_) ?_, cl_c_ch _ _⟩
  · exact ((tm_uk (by decide)).trans ((tm_uk (by decide)).trans ((tm_uk (by decide)).trans (tm_uk (by decide))))).trans (h1.trans (tm_uk (by decide)).symm)
  · exact ((tm_uk (by decide)).trans ((tm_uk (by decide)).trans ((tm_uk (by decide)).trans (tm_uk (by decide))))).trans (h2.trans (tm_uk (by decide)).symm)
  · intro j hj
    have hj2 : (j : Int) < d 0 0 := by rw [show (tm_up d 3 0 v) 0 0 = d 0 0 from tm_uk (by decide)] at hj; exact hj
    exact ((tm_uk (by decide)).trans ((tm_uk (by decide)).trans ((tm_uk (by decide)).trans (tm_uk (by decide))))).trans ((h3 j (by omega)).trans (tm_uk (by decide)).symm)
  · intro j hj
    have hj2 : (j : Int) < d 0 1 := by rw [show (tm_up d 3 0 v) 0 1 = d 0 1 from tm_uk (by decide)] at hj; exact hj
    exact ((tm_uk (by decide)).trans ((tm_uk (by decide)).trans ((tm_uk (by decide)).trans (tm_uk (by decide))))).trans ((h4 j (by omega)).trans (tm_uk (by decide)).symm)
  · exact ((tm_uk (by decide)).trans ((tm_uk (by decide)).trans ((tm_uk (by decide)).trans (tm_us)))).trans (tm_us).symm
  · exact ((tm_uk (by decide)).trans ((tm_uk (by decide)).trans ((tm_uk (by decide)).trans (tm_uk (by decide))))).trans (h6.trans (tm_uj (by decide)).symm)
  · intro j hj
    have hj2 : (j : Int) < v := by rw [show (tm_up d 3 0 v) 3 0 = v from tm_us] at hj; exact hj
    exact ((tm_uk (by decide)).trans ((tm_uk (by decide)).trans ((tm_uk (by decide)).trans (tm_uk (by decide))))).trans ((h7 j (by omega)).trans (tm_uk (by decide)).symm)
  · intro j hj
    have hj2 : (j : Int) < d 3 1 := by rw [show (tm_up d 3 0 v) 3 1 = d 3 1 from tm_uj (by decide)] at hj; exact hj
    exact ((tm_uk (by decide)).trans ((tm_uk (by decide)).trans ((tm_uk (by decide)).trans (tm_uk (by decide))))).trans ((h8 j (by omega)).trans (tm_uk (by decide)).symm)
  · intro j hj
    exact ((tm_uk (by decide)).trans ((tm_uk (by decide)).trans ((tm_uk (by decide)).trans (tm_uk (by decide))))).trans ((h9 j hj).trans (tm_uk (by decide)).symm)
  · rw [tm_ch_f (by omega), tm_uf (by omega)]
  · exact (tm_uj (by decide)).trans ((tm_uj (by decide)).trans ((tm_uj (by decide)).trans (tm_uk (by decide))))
theorem cl_push3 {μ d s : tm_M} (h : cl_I μ d s) (hd : dd_ok d) (b : Int) : cl_I (tm_ch (tm_up (tm_up μ 9 (d 3 1).toNat b) 8 1 ((d 3 1) + 1))) (tm_up (tm_up d 5 (d 3 1).toNat b) 3 1 ((d 3 1) + 1)) s := by
  obtain ⟨⟨h1, h2, h3, h4, h5, h6, h7, h8, h9⟩, hs, -⟩ := h
  have z1 := hd.1
  have z2 := hd.2.1
  have z3 := hd.2.2.2.2.1
  have z4 := hd.2.2.2.2.2.1
  refine ⟨⟨?_, ?_, ?_, ?_, ?_, ?_, ?_, ?_, ?_⟩, cl_d_same hs (fun a ha => ?_) ?_, cl_c_ch _ _⟩
  · exact ((tm_uk (by decide)).trans ((tm_uk (by decide)).trans ((tm_uk (by decide)).trans ((tm_uk (by decide)).trans (tm_uk (by decide)))))).trans (h1.trans ((tm_uk (by decide)).trans (tm_uk (by decide))).symm)
  · exact ((tm_uk (by decide)).trans ((tm_uk (by decide)).trans ((tm_uk (by decide)).trans ((tm_uk (by decide)).trans (tm_uk (by decide)))))).trans (h2.trans ((tm_uk (by decide)).trans (tm_uk (by decide))).symm)
  · intro j hj
    have hj2 : (j : Int) < d 0 0 := by rw [show (tm_up (tm_up d 5 (d 3 1).toNat b) 3 1 ((d 3 1) + 1)) 0 0 = d 0 0 from (tm_uk (by decide)).trans (tm_uk (by decide))] at hj; exact hj
    exact ((tm_uk (by decide)).trans ((tm_uk (by decide)).trans ((tm_uk (by decide)).trans ((tm_uk (by decide)).trans (tm_uk (by decide)))))).trans ((h3 j (by omega)).trans ((tm_uk (by decide)).trans (tm_uk (by decide))).symm)
  · intro j hj
    have hj2 : (j : Int) < d 0 1 := by rw [show (tm_up (tm_up d 5 (d 3 1).toNat b) 3 1 ((d 3 1) + 1)) 0 1 = d 0 1 from (tm_uk (by decide)).trans (tm_uk (by decide))] at hj; exact hj
    exact ((tm_uk (by decide)).trans ((tm_uk (by decide)).trans ((tm_uk (by decide)).trans ((tm_uk (by decide)).trans (tm_uk (by decide)))))).trans ((h4 j (by omega)).trans ((tm_uk (by decide)).trans (tm_uk (by decide))).symm)
  · exact ((tm_uk (by decide)).trans ((tm_uk (by decide)).trans ((tm_uk (by decide)).trans ((tm_uk (by decide)).trans (tm_uk (by decide)))))).trans (h5.trans ((tm_uj (by decide)).trans (tm_uk (by decide))).symm)
  · exact ((tm_uk (by decide)).trans ((tm_uk (by decide)).trans ((tm_uk (by decide)).trans (tm_us)))).trans (tm_us).symm
  · intro j hj
    have hj2 : (j : Int) < d 3 0 := by rw [show (tm_up (tm_up d 5 (d 3 1).toNat b) 3 1 ((d 3 1) + 1)) 3 0 = d 3 0 from (tm_uj (by decide)).trans (tm_uk (by decide))] at hj; exact hj
    exact ((tm_uk (by decide)).trans ((tm_uk (by decide)).trans ((tm_uk (by decide)).trans ((tm_uk (by decide)).trans (tm_uk (by decide)))))).trans ((h7 j (by omega)).trans ((tm_uk (by decide)).trans (tm_uk (by decide))).symm)
  · intro j hj
    have hj2 : (j : Int) < d 3 1 + 1 := by rw [show (tm_up (tm_up d 5 (d 3 1).toNat b) 3 1 ((d 3 1) + 1)) 3 1 = d 3 1 + 1 from tm_us] at hj; exact hj
    by_cases hc : j = (d 3 1).toNat
    · subst hc
      exact ((tm_uk (by decide)).trans ((tm_uk (by decide)).trans ((tm_uk (by decide)).trans ((tm_uk (by decide)).trans (tm_us))))).trans ((tm_uk (by decide)).trans (tm_us)).symm
    · exact ((tm_uk (by decide)).trans ((tm_uk (by decide)).trans ((tm_uk (by decide)).trans ((tm_uk (by decide)).trans (tm_uj (by omega)))))).trans ((h8 j (by omega)).trans ((tm_uk (by decide)).trans (tm_uj hc)).symm)
  · intro j hj
    exact ((tm_uk (by decide)).trans ((tm_uk (by decide)).trans ((tm_uk (by decide)).trans ((tm_uk (by decide)).trans (tm_uk (by decide)))))).trans ((h9 j hj).trans ((tm_uk (by decide)).trans (tm_uk (by decide))).symm)
  · rw [tm_ch_f (by omega), tm_uf (by omega), tm_uf (by omega)]
  · exact (tm_uj (by decide)).trans ((tm_uj (by decide)).trans ((tm_uj (by decide)).trans ((tm_uk (by decide)).trans (tm_uk (by decide)))))
theorem cl_size3 {μ d s : tm_M} (h : cl_I μ d s) (hd : dd_ok d) (v : Int) (hv : v ≤ (d 3 1)) : cl_I (tm_ch (tm_up μ 8 1 v)) (tm_up d 3 1 v) s := by
  obtain ⟨⟨h1, h2, h3, h4, h5, h6, h7, h8, h9⟩, hs, -⟩ := h
  have z1 := hd.1
  have z2 := hd.2.1
  have z3 := hd.2.2.2.2.1
  have z4 := hd.2.2.2.2.2.1
  refine ⟨⟨?_, ?_, ?_, ?_, ?_, ?_, ?_, ?_, ?_⟩, cl_d_same hs (fun a ha => ?_) ?_, cl_c_ch _ _⟩
  · exact ((tm_uk (by decide)).trans ((tm_uk (by decide)).trans ((tm_uk (by decide)).trans (tm_uk (by decide))))).trans (h1.trans (tm_uk (by decide)).symm)
  · exact ((tm_uk (by decide)).trans ((tm_uk (by decide)).trans ((tm_uk (by decide)).trans (tm_uk (by decide))))).trans (h2.trans (tm_uk (by decide)).symm)
  · intro j hj
    have hj2 : (j : Int) < d 0 0 := by rw [show (tm_up d 3 1 v) 0 0 = d 0 0 from tm_uk (by decide)] at hj; exact hj
    exact ((tm_uk (by decide)).trans ((tm_uk (by decide)).trans ((tm_uk (by decide)).trans (tm_uk (by decide))))).trans ((h3 j (by omega)).trans (tm_uk (by decide)).symm)
  · intro j hj
    have hj2 : (j : Int) < d 0 1 := by rw [show (tm_up d 3 1 v) 0 1 = d 0 1 from tm_uk (by decide)] at hj; exact hj
    exact ((tm_uk (by decide)).trans ((tm_uk (by decide)).trans ((tm_uk (by decide)).trans (tm_uk (by decide))))).trans ((h4 j (by omega)).trans (tm_uk (by decide)).symm)
  · exact ((tm_uk (by decide)).trans ((tm_uk (by decide)).trans ((tm_uk (by decide)).trans (tm_uk (by decide))))).trans (h5.trans (tm_uj (by decide)).symm)
  · exact ((tm_uk (by decide)).trans ((tm_uk (by decide)).trans ((tm_uk (by decide)).trans (tm_us)))).trans (tm_us).symm
  · intro j hj
    have hj2 : (j : Int) < d 3 0 := by rw [show (tm_up d 3 1 v) 3 0 = d 3 0 from tm_uj (by decide)] at hj; exact hj
    exact ((tm_uk (by decide)).trans ((tm_uk (by decide)).trans ((tm_uk (by decide)).trans (tm_uk (by decide))))).trans ((h7 j (by omega)).trans (tm_uk (by decide)).symm)
  · intro j hj
    have hj2 : (j : Int) < v := by rw [show (tm_up d 3 1 v) 3 1 = v from tm_us] at hj; exact hj
    exact ((tm_uk (by decide)).trans ((tm_uk (by decide)).trans ((tm_uk (by decide)).trans (tm_uk (by decide))))).trans ((h8 j (by omega)).trans (tm_uk (by decide)).symm)
  · intro j hj
    exact ((tm_uk (by decide)).trans ((tm_uk (by decide)).trans ((tm_uk (by decide)).trans (tm_uk (by decide))))).trans ((h9 j hj).trans (tm_uk (by decide)).symm)
  · rw [tm_ch_f (by omega), tm_uf (by omega)]
  · exact (tm_uj (by decide)).trans ((tm_uj (by decide)).trans ((tm_uj (by decide)).trans (tm_uk (by decide))))
theorem cl_dial {μ d s : tm_M} (h : cl_I μ d s) (hd : dd_ok d) (k : Nat) (v : Int) (hk : k < 5) : cl_I (tm_ch (tm_up μ 28 k v)) (tm_up d 6 k v) s := by
  obtain ⟨⟨h1, h2, h3, h4, h5, h6, h7, h8, h9⟩, hs, -⟩ := h
  have z1 := hd.1
  have z2 := hd.2.1
  have z3 := hd.2.2.2.2.1
  have z4 := hd.2.2.2.2.2.1
  refine ⟨⟨?_, ?_, ?_, ?_, ?_, ?_, ?_, ?_, ?_⟩, cl_d_same hs (fun a ha => ?_) ?_, cl_c_ch _ _⟩
  · exact ((tm_uk (by decide)).trans ((tm_uk (by decide)).trans ((tm_uk (by decide)).trans (tm_uk (by decide))))).trans (h1.trans (tm_uk (by decide)).symm)
  · exact ((tm_uk (by decide)).trans ((tm_uk (by decide)).trans ((tm_uk (by decide)).trans (tm_uk (by decide))))).trans (h2.trans (tm_uk (by decide)).symm)
  · intro j hj
    have hj2 : (j : Int) < d 0 0 := by rw [show (tm_up d 6 k v) 0 0 = d 0 0 from tm_uk (by decide)] at hj; exact hj
    exact ((tm_uk (by decide)).trans ((tm_uk (by decide)).trans ((tm_uk (by decide)).trans (tm_uk (by decide))))).trans ((h3 j (by omega)).trans (tm_uk (by decide)).symm)
  · intro j hj
    have hj2 : (j : Int) < d 0 1 := by rw [show (tm_up d 6 k v) 0 1 = d 0 1 from tm_uk (by decide)] at hj; exact hj
    exact ((tm_uk (by decide)).trans ((tm_uk (by decide)).trans ((tm_uk (by decide)).trans (tm_uk (by decide))))).trans ((h4 j (by omega)).trans (tm_uk (by decide)).symm)
  · exact ((tm_uk (by decide)).trans ((tm_uk (by decide)).trans ((tm_uk (by decide)).trans (tm_uk (by decide))))).trans (h5.trans (tm_uk (by decide)).symm)
  · exact ((tm_uk (by decide)).trans ((tm_uk (by decide)).trans ((tm_uk (by decide)).trans (tm_uk (by decide))))).trans (h6.trans (tm_uk (by decide)).symm)
  · intro j hj
    have hj2 : (j : Int) < d 3 0 := by rw [show (tm_up d 6 k v) 3 0 = d 3 0 from tm_uk (by decide)] at hj; exact hj
    exact ((tm_uk (by decide)).trans ((tm_uk (by decide)).trans ((tm_uk (by decide)).trans (tm_uk (by decide))))).trans ((h7 j (by omega)).trans (tm_uk (by decide)).symm)
  · intro j hj
    have hj2 : (j : Int) < d 3 1 := by rw [show (tm_up d 6 k v) 3 1 = d 3 1 from tm_uk (by decide)] at hj; exact hj
    exact ((tm_uk (by decide)).trans ((tm_uk (by decide)).trans ((tm_uk (by decide)).trans (tm_uk (by decide))))).trans ((h8 j (by omega)).trans (tm_uk (by decide)).symm)
  · intro j hj
    by_cases hc : j = k
    · subst hc
      exact ((tm_uk (by decide)).trans ((tm_uk (by decide)).trans ((tm_uk (by decide)).trans (tm_us)))).trans (tm_us).symm
    · exact ((tm_uk (by decide)).trans ((tm_uk (by decide)).trans ((tm_uk (by decide)).trans (tm_uj hc)))).trans ((h9 j hj).trans (tm_uj hc).symm)
  · rw [tm_ch_f (by omega), tm_uf (by omega)]
  · exact (tm_uj (by decide)).trans ((tm_uj (by decide)).trans ((tm_uj (by decide)).trans (tm_uk (by decide))))
theorem rf_push0 {μ d s : tm_M} (h : rf_I μ d s) (hd : dd_ok d) (b : Int) : rf_I (tm_up (tm_up μ 76 (d 0 0).toNat b) 75 0 ((d 0 0) + 1)) (tm_up (tm_up d 1 (d 0 0).toNat b) 0 0 ((d 0 0) + 1)) s := by
  obtain ⟨⟨h1, h2, h3, h4, h5, h6, h7, h8, h9⟩, hs⟩ := h
  have z1 := hd.1
  have z2 := hd.2.1
  have z3 := hd.2.2.2.2.1
  have z4 := hd.2.2.2.2.2.1
  refine ⟨⟨?_, ?_, ?_, ?_, ?_, ?_, ?_, ?_, ?_⟩, rf_d_same hs (fun a ha => ?_) ?_ ?_⟩
  · exact (tm_us).trans (tm_us).symm
  · exact ((tm_uj (by decide)).trans (tm_uk (by decide))).trans (h2.trans ((tm_uj (by decide)).trans (tm_uk (by decide))).symm)
  · intro j hj
    have hj2 : (j : Int) < d 0 0 + 1 := by rw [show (tm_up (tm_up d 1 (d 0 0).toNat b) 0 0 ((d 0 0) + 1)) 0 0 = d 0 0 + 1 from tm_us] at hj; exact hj
    by_cases hc : j = (d 0 0).toNat
    · subst hc
      exact ((tm_uk (by decide)).trans (tm_us)).trans ((tm_uk (by decide)).trans (tm_us)).symm
    · exact ((tm_uk (by decide)).trans (tm_uj (by omega))).trans ((h3 j (by omega)).trans ((tm_uk (by decide)).trans (tm_uj hc)).symm)
  · intro j hj
    have hj2 : (j : Int) < d 0 1 := by rw [show (tm_up (tm_up d 1 (d 0 0).toNat b) 0 0 ((d 0 0) + 1)) 0 1 = d 0 1 from (tm_uj (by decide)).trans (tm_uk (by decide))] at hj; exact hj
    exact ((tm_uk (by decide)).trans (tm_uj (by omega))).trans ((h4 j (by omega)).trans ((tm_uk (by decide)).trans (tm_uk (by decide))).symm)
  · exact ((tm_uk (by decide)).trans (tm_uk (by decide))).trans (h5.trans ((tm_uk (by decide)).trans (tm_uk (by decide))).symm)
  · exact ((tm_uk (by decide)).trans (tm_uk (by decide))).trans (h6.trans ((tm_uk (by decide)).trans (tm_uk (by decide))).symm)
  · intro j hj
    have hj2 : (j : Int) < d 3 0 := by rw [show (tm_up (tm_up d 1 (d 0 0).toNat b) 0 0 ((d 0 0) + 1)) 3 0 = d 3 0 from (tm_uk (by decide)).trans (tm_uk (by decide))] at hj; exact hj
    exact ((tm_uk (by decide)).trans (tm_uk (by decide))).trans ((h7 j (by omega)).trans ((tm_uk (by decide)).trans (tm_uk (by decide))).symm)
  · intro j hj
    have hj2 : (j : Int) < d 3 1 := by rw [show (tm_up (tm_up d 1 (d 0 0).toNat b) 0 0 ((d 0 0) + 1)) 3 1 = d 3 1 from (tm_uk (by decide)).trans (tm_uk (by decide))] at hj; exact hj
    exact ((tm_uk (by decide)).trans (tm_uk (by decide))).trans ((h8 j (by omega)).trans ((tm_uk (by decide)).trans (tm_uk (by decide))).symm)
  · intro j hj
    exact ((tm_uk (by decide)).trans (tm_uk (by decide))).trans ((h9 j hj).trans ((tm_uk (by decide)).trans (tm_uk (by decide))).symm)
  · rw [tm_uf (by omega), tm_uf (by omega)]
  · exact (tm_uk (by decide)).trans (tm_uk (by decide))
  · exact (tm_uk (by decide)).trans (tm_uk (by decide))
theorem rf_size0 {μ d s : tm_M} (h : rf_I μ d s) (hd : dd_ok d) (v : Int) (hv : v ≤ (d 0 0)) : rf_I (tm_up μ 75 0 v) (tm_up d 0 0 v) s := by
  obtain ⟨⟨h1, h2, h3, h4, h5, h6, h7, h8, h9⟩, hs⟩ := h
  have z1 := hd.1
  have z2 := hd.2.1
  have z3 := hd.2.2.2.2.1
  have z4 := hd.2.2.2.2.2.1
  refine ⟨⟨?_, ?_, ?_, ?_, ?_, ?_, ?_, ?_, ?_⟩, rf_d_same hs (fun a ha => ?_) ?_ ?_⟩
  · exact (tm_us).trans (tm_us).symm
  · exact (tm_uj (by decide)).trans (h2.trans (tm_uj (by decide)).symm)
  · intro j hj
    have hj2 : (j : Int) < v := by rw [show (tm_up d 0 0 v) 0 0 = v from tm_us] at hj; exact hj
    exact (tm_uk (by decide)).trans ((h3 j (by omega)).trans (tm_uk (by decide)).symm)
  · intro j hj
    have hj2 : (j : Int) < d 0 1 := by rw [show (tm_up d 0 0 v) 0 1 = d 0 1 from tm_uj (by decide)] at hj; exact hj
    exact (tm_uk (by decide)).trans ((h4 j (by omega)).trans (tm_uk (by decide)).symm)
  · exact (tm_uk (by decide)).trans (h5.trans (tm_uk (by decide)).symm)
  · exact (tm_uk (by decide)).trans (h6.trans (tm_uk (by decide)).symm)
  · intro j hj
    have hj2 : (j : Int) < d 3 0 := by rw [show (tm_up d 0 0 v) 3 0 = d 3 0 from tm_uk (by decide)] at hj; exact hj
    exact (tm_uk (by decide)).trans ((h7 j (by omega)).trans (tm_uk (by decide)).symm)
  · intro j hj
    have hj2 : (j : Int) < d 3 1 := by rw [show (tm_up d 0 0 v) 3 1 = d 3 1 from tm_uk (by decide)] at hj; exact hj
    exact (tm_uk (by decide)).trans ((h8 j (by omega)).trans (tm_uk (by decide)).symm)
  · intro j hj
    exact (tm_uk (by decide)).trans ((h9 j hj).trans (tm_uk (by decide)).symm)
  · rw [tm_uf (by omega)]
  · exact tm_uk (by decide)
  · exact tm_uk (by decide)
theorem rf_push1 {μ d s : tm_M} (h : rf_I μ d s) (hd : dd_ok d) (b : Int) : rf_I (tm_up (tm_up μ 76 (47 + (d 0 1).toNat) b) 75 1 ((d 0 1) + 1)) (tm_up (tm_up d 2 (d 0 1).toNat b) 0 1 ((d 0 1) + 1)) s := by
  obtain ⟨⟨h1, h2, h3, h4, h5, h6, h7, h8, h9⟩, hs⟩ := h
  have z1 := hd.1
  have z2 := hd.2.1
  have z3 := hd.2.2.2.2.1
  have z4 := hd.2.2.2.2.2.1
  refine ⟨⟨?_, ?_, ?_, ?_, ?_, ?_, ?_, ?_, ?_⟩, rf_d_same hs (fun a ha => ?_) ?_ ?_⟩
  · exact ((tm_uj (by decide)).trans (tm_uk (by decide))).trans (h1.trans ((tm_uj (by decide)).trans (tm_uk (by decide))).symm)
  · exact (tm_us).trans (tm_us).symm
  · intro j hj
    have hj2 : (j : Int) < d 0 0 := by rw [show (tm_up (tm_up d 2 (d 0 1).toNat b) 0 1 ((d 0 1) + 1)) 0 0 = d 0 0 from (tm_uj (by decide)).trans (tm_uk (by decide))] at hj; exact hj
    exact ((tm_uk (by decide)).trans (tm_uj (by omega))).trans ((h3 j (by omega)).trans ((tm_uk (by decide)).trans (tm_uk (by decide))).symm)
  · intro j hj
    have hj2 : (j : Int) < d 0 1 + 1 := by rw [show (tm_up (tm_up d 2 (d 0 1).toNat b) 0 1 ((d 0 1) + 1)) 0 1 = d 0 1 + 1 from tm_us] at hj; exact hj
    by_cases hc : j = (d 0 1).toNat
    · subst hc
      exact ((tm_uk (by decide)).trans (tm_us)).trans ((tm_uk (by decide)).trans (tm_us)).symm
    · exact ((tm_uk (by decide)).trans (tm_uj (by omega))).trans ((h4 j (by omega)).trans ((tm_uk (by decide)).trans (tm_uj hc)).symm)
  · exact ((tm_uk (by decide)).trans (tm_uk (by decide))).trans (h5.trans ((tm_uk (by decide)).trans (tm_uk (by decide))).symm)
  · exact ((tm_uk (by decide)).trans (tm_uk (by decide))).trans (h6.trans ((tm_uk (by decide)).trans (tm_uk (by decide))).symm)
  · intro j hj
    have hj2 : (j : Int) < d 3 0 := by rw [show (tm_up (tm_up d 2 (d 0 1).toNat b) 0 1 ((d 0 1) + 1)) 3 0 = d 3 0 from (tm_uk (by decide)).trans (tm_uk (by decide))] at hj; exact hj
    exact ((tm_uk (by decide)).trans (tm_uk (by decide))).trans ((h7 j (by omega)).trans ((tm_uk (by decide)).trans (tm_uk (by decide))).symm)
  · intro j hj
    have hj2 : (j : Int) < d 3 1 := by rw [show (tm_up (tm_up d 2 (d 0 1).toNat b) 0 1 ((d 0 1) + 1)) 3 1 = d 3 1 from (tm_uk (by decide)).trans (tm_uk (by decide))] at hj; exact hj
    exact ((tm_uk (by decide)).trans (tm_uk (by decide))).trans ((h8 j (by omega)).trans ((tm_uk (by decide)).trans (tm_uk (by decide))).symm)
  · intro j hj
    exact ((tm_uk (by decide)).trans (tm_uk (by decide))).trans ((h9 j hj).trans ((tm_uk (by decide)).trans (tm_uk (by decide))).symm)
  · rw [tm_uf (by omega), tm_uf (by omega)]
  · exact (tm_uk (by decide)).trans (tm_uk (by decide))
  · exact (tm_uk (by decide)).trans (tm_uk (by decide))
theorem rf_size1 {μ d s : tm_M} (h : rf_I μ d s) (hd : dd_ok d) (v : Int) (hv : v ≤ (d 0 1)) : rf_I (tm_up μ 75 1 v) (tm_up d 0 1 v) s := by
  obtain ⟨⟨h1, h2, h3, h4, h5, h6, h7, h8, h9⟩, hs⟩ := h
  have z1 := hd.1
  have z2 := hd.2.1
  have z3 := hd.2.2.2.2.1
  have z4 := hd.2.2.2.2.2.1
  refine ⟨⟨?_, ?_, ?_, ?_, ?_, ?_, ?_, ?_, ?_⟩, rf_d_same hs (fun a ha => ?_) ?_ ?_⟩
  · exact (tm_uj (by decide)).trans (h1.trans (tm_uj (by decide)).symm)
  · exact (tm_us).trans (tm_us).symm
  · intro j hj
    have hj2 : (j : Int) < d 0 0 := by rw [show (tm_up d 0 1 v) 0 0 = d 0 0 from tm_uj (by decide)] at hj; exact hj
    exact (tm_uk (by decide)).trans ((h3 j (by omega)).trans (tm_uk (by decide)).symm)
  · intro j hj
    have hj2 : (j : Int) < v := by rw [show (tm_up d 0 1 v) 0 1 = v from tm_us] at hj; exact hj
    exact (tm_uk (by decide)).trans ((h4 j (by omega)).trans (tm_uk (by decide)).symm)
  · exact (tm_uk (by decide)).trans (h5.trans (tm_uk (by decide)).symm)
  · exact (tm_uk (by decide)).trans (h6.trans (tm_uk (by decide)).symm)
  · intro j hj
    have hj2 : (j : Int) < d 3 0 := by rw [show (tm_up d 0 1 v) 3 0 = d 3 0 from tm_uk (by decide)] at hj; exact hj
    exact (tm_uk (by decide)).trans ((h7 j (by omega)).trans (tm_uk (by decide)).symm)
  · intro j hj
    have hj2 : (j : Int) < d 3 1 := by rw [show (tm_up d 0 1 v) 3 1 = d 3 1 from tm_uk (by decide)] at hj; exact hj
    exact (tm_uk (by decide)).trans ((h8 j (by omega)).trans (tm_uk (by decide)).symm)
  · intro j hj
    exact (tm_uk (by decide)).trans ((h9 j hj).trans (tm_uk (by decide)).symm)
  · rw [tm_uf (by omega)]
  · exact tm_uk (by decide)
  · exact tm_uk (by decide)
theorem rf_push2 {μ d s : tm_M} (h : rf_I μ d s) (hd : dd_ok d) (b : Int) : rf_I (tm_up (tm_up μ 83 (d 3 0).toNat b) 74 10 ((d 3 0) + 1)) (tm_up (tm_up d 4 (d 3 0).toNat b) 3 0 ((d 3 0) + 1)) s := by
  obtain ⟨⟨h1, h2, h3, h4, h5, h6, h7, h8, h9⟩, hs⟩ := h
  have z1 := hd.1
  have z2 := hd.2.1
  have z3 := hd.2.2.2.2.1
  have z4 := hd.2.2.2.2.2.1
  refine ⟨⟨?_, ?_, ?_, ?_, ?_, ?_, ?_, ?_, ?_⟩, rf_d_same hs (fun a ha => ?_) ?_ ?_⟩
  · exact ((tm_uk (by decide)).trans (tm_uk (by decide))).trans (h1.trans ((tm_uk (by decide)).trans (tm_uk (by decide))).symm)
  · exact ((tm_uk (by decide)).trans (tm_uk (by decide))).trans (h2.trans ((tm_uk (by decide)).trans (tm_uk (by decide))).symm)
  · intro j hj
    have hj2 : (j : Int) < d 0 0 := by rw [show (tm_up (tm_up d 4 (d 3 0).toNat b) 3 0 ((d 3 0) + 1)) 0 0 = d 0 0 from (tm_uk (by decide)).trans (tm_uk (by decide))] at hj; exact hj
    exact ((tm_uk (by decide)).trans (tm_uk (by decide))).trans ((h3 j (by omega)).trans ((tm_uk (by decide)).trans (tm_uk (by decide))).symm)
  · intro j hj
    have hj2 : (j : Int) < d 0 1 := by rw [show (tm_up (tm_up d 4 (d 3 0).toNat b) 3 0 ((d 3 0) + 1)) 0 1 = d 0 1 from (tm_uk (by decide)).trans (tm_uk (by decide))] at hj; exact hj
    exact ((tm_uk (by decide)).trans (tm_uk (by decide))).trans ((h4 j (by omega)).trans ((tm_uk (by decide)).trans (tm_uk (by decide))).symm)
  · exact (tm_us).trans (tm_us).symm
  · exact ((tm_uj (by decide)).trans (tm_uk (by decide))).trans (h6.trans ((tm_uj (by decide)).trans (tm_uk (by decide))).symm)
  · intro j hj
    have hj2 : (j : Int) < d 3 0 + 1 := by rw [show (tm_up (tm_up d 4 (d 3 0).toNat b) 3 0 ((d 3 0) + 1)) 3 0 = d 3 0 + 1 from tm_us] at hj; exact hj
    by_cases hc : j = (d 3 0).toNat
    · subst hc
      exact ((tm_uk (by decide)).trans (tm_us)).trans ((tm_uk (by decide)).trans (tm_us)).symm
    · exact ((tm_uk (by decide)).trans (tm_uj (by omega))).trans ((h7 j (by omega)).trans ((tm_uk (by decide)).trans (tm_uj hc)).symm)
  · intro j hj
    have hj2 : (j : Int) < d 3 1 := by rw [show (tm_up (tm_up d 4 (d 3 0).toNat b) 3 0 ((d 3 0) + 1)) 3 1 = d 3 1 from (tm_uj (by decide)).trans (tm_uk (by decide))] at hj; exact hj
    exact ((tm_uk (by decide)).trans (tm_uk (by decide))).trans ((h8 j (by omega)).trans ((tm_uk (by decide)).trans (tm_uk (by decide))).symm)
  · intro j hj
    exact ((tm_uk (by decide)).trans (tm_uk (by decide))).trans ((h9 j hj).trans ((tm_uk (by decide)).trans (tm_uk (by decide))).symm)
  · rw [tm_uf (by omega), tm_uf (by omega)]
  · exact (tm_uj (by decide)).trans (tm_uk (by decide))
  · exact (tm_uj (by decide)).trans (tm_uk (by decide))
theorem rf_size2 {μ d s : tm_M} (h : rf_I μ d s) (hd : dd_ok d) (v : Int) (hv : v ≤ (d 3 0)) : rf_I (tm_up μ 74 10 v) (tm_up d 3 0 v) s := by
  obtain ⟨⟨h1, h2, h3, h4, h5, h6, h7, h8, h9⟩, hs⟩ := h
  have z1 := hd.1
  have z2 := hd.2.1
  have z3 := hd.2.2.2.2.1
  have z4 := hd.2.2.2.2.2.1
  refine ⟨⟨?_, ?_, ?_, ?_, ?_, ?_, ?_, ?_, ?_⟩, rf_d_same hs (fun a ha => ?_) ?_ ?_⟩
  · exact (tm_uk (by decide)).trans (h1.trans (tm_uk (by decide)).symm)
  · exact (tm_uk (by decide)).trans (h2.trans (tm_uk (by decide)).symm)
  · intro j hj
    have hj2 : (j : Int) < d 0 0 := by rw [show (tm_up d 3 0 v) 0 0 = d 0 0 from tm_uk (by decide)] at hj; exact hj
    exact (tm_uk (by decide)).trans ((h3 j (by omega)).trans (tm_uk (by decide)).symm)
  · intro j hj
    have hj2 : (j : Int) < d 0 1 := by rw [show (tm_up d 3 0 v) 0 1 = d 0 1 from tm_uk (by decide)] at hj; exact hj
    exact (tm_uk (by decide)).trans ((h4 j (by omega)).trans (tm_uk (by decide)).symm)
  · exact (tm_us).trans (tm_us).symm
  · exact (tm_uj (by decide)).trans (h6.trans (tm_uj (by decide)).symm)
  · intro j hj
    have hj2 : (j : Int) < v := by rw [show (tm_up d 3 0 v) 3 0 = v from tm_us] at hj; exact hj
    exact (tm_uk (by decide)).trans ((h7 j (by omega)).trans (tm_uk (by decide)).symm)
  · intro j hj
    have hj2 : (j : Int) < d 3 1 := by rw [show (tm_up d 3 0 v) 3 1 = d 3 1 from tm_uj (by decide)] at hj; exact hj
    exact (tm_uk (by decide)).trans ((h8 j (by omega)).trans (tm_uk (by decide)).symm)
  · intro j hj
    exact (tm_uk (by decide)).trans ((h9 j hj).trans (tm_uk (by decide)).symm)
  · rw [tm_uf (by omega)]
  · exact tm_uj (by decide)
  · exact tm_uj (by decide)
theorem rf_push3 {μ d s : tm_M} (h : rf_I μ d s) (hd : dd_ok d) (b : Int) : rf_I (tm_up (tm_up μ 84 (d 3 1).toNat b) 74 12 ((d 3 1) + 1)) (tm_up (tm_up d 5 (d 3 1).toNat b) 3 1 ((d 3 1) + 1)) s := by
  obtain ⟨⟨h1, h2, h3, h4, h5, h6, h7, h8, h9⟩, hs⟩ := h
  have z1 := hd.1
  have z2 := hd.2.1
  have z3 := hd.2.2.2.2.1
  have z4 := hd.2.2.2.2.2.1
  refine ⟨⟨?_, ?_, ?_, ?_, ?_, ?_, ?_, ?_, ?_⟩, rf_d_same hs (fun a ha => ?_) ?_ ?_⟩
  · exact ((tm_uk (by decide)).trans (tm_uk (by decide))).trans (h1.trans ((tm_uk (by decide)).trans (tm_uk (by decide))).symm)
  · exact ((tm_uk (by decide)).trans (tm_uk (by decide))).trans (h2.trans ((tm_uk (by decide)).trans (tm_uk (by decide))).symm)
  · intro j hj
    have hj2 : (j : Int) < d 0 0 := by rw [show (tm_up (tm_up d 5 (d 3 1).toNat b) 3 1 ((d 3 1) + 1)) 0 0 = d 0 0 from (tm_uk (by decide)).trans (tm_uk (by decide))] at hj; exact hj
    exact ((tm_uk (by decide)).trans (tm_uk (by decide))).trans ((h3 j (by omega)).trans ((tm_uk (by decide)).trans (tm_uk (by decide))).symm)
  · intro j hj
    have hj2 : (j : Int) < d 0 1 := by rw [show (tm_up (tm_up d 5 (d 3 1).toNat b) 3 1 ((d 3 1) + 1)) 0 1 = d 0 1 from (tm_uk (by decide)).trans (tm_uk (by decide))] at hj; exact hj
    exact ((tm_uk (by decide)).trans (tm_uk (by decide))).trans ((h4 j (by omega)).trans ((tm_uk (by decide)).trans (tm_uk (by decide))).symm)
  · exact ((tm_uj (by decide)).trans (tm_uk (by decide))).trans (h5.trans ((tm_uj (by decide)).trans (tm_uk (by decide))).symm)
  · exact (tm_us).trans (tm_us).symm
  · intro j hj
    have hj2 : (j : Int) < d 3 0 := by rw [show (tm_up (tm_up d 5 (d 3 1).toNat b) 3 1 ((d 3 1) + 1)) 3 0 = d 3 0 from (tm_uj (by decide)).trans (tm_uk (by decide))] at hj; exact hj
    exact ((tm_uk (by decide)).trans (tm_uk (by decide))).trans ((h7 j (by omega)).trans ((tm_uk (by decide)).trans (tm_uk (by decide))).symm)
  · intro j hj
    have hj2 : (j : Int) < d 3 1 + 1 := by rw [show (tm_up (tm_up d 5 (d 3 1).toNat b) 3 1 ((d 3 1) + 1)) 3 1 = d 3 1 + 1 from tm_us] at hj; exact hj
    by_cases hc : j = (d 3 1).toNat
    · subst hc
      exact ((tm_uk (by decide)).trans (tm_us)).trans ((tm_uk (by decide)).trans (tm_us)).symm
    · exact ((tm_uk (by decide)).trans (tm_uj (by omega))).trans ((h8 j (by omega)).trans ((tm_uk (by decide)).trans (tm_uj hc)).symm)
  · intro j hj
    exact ((tm_uk (by decide)).trans (tm_uk (by decide))).trans ((h9 j hj).trans ((tm_uk (by decide)).trans (tm_uk (by decide))).symm)
  · rw [tm_uf (by omega), tm_uf (by omega)]
  · exact (tm_uj (by decide)).trans (tm_uk (by decide))
  · exact (tm_uj (by decide)).trans (tm_uk (by decide))
theorem rf_size3 {μ d s : tm_M} (h : rf_I μ d s) (hd : dd_ok d) (v : Int) (hv : v ≤ (d 3 1)) : rf_I (tm_up μ 74 12 v) (tm_up d 3 1 v) s := by
  obtain ⟨⟨h1, h2, h3, h4, h5, h6, h7, h8, h9⟩, hs⟩ := h
  have z1 := hd.1
  have z2 := hd.2.1
  have z3 := hd.2.2.2.2.1
  have z4 := hd.2.2.2.2.2.1
  refine ⟨⟨?_, ?_, ?_, ?_, ?_, ?_, ?_, ?_, ?_⟩, rf_d_same hs (fun a ha => ?_) ?_ ?_⟩
  · exact (tm_uk (by decide)).trans (h1.trans (tm_uk (by decide)).symm)
  · exact (tm_uk (by decide)).trans (h2.trans (tm_uk (by decide)).symm)
  · intro j hj
    have hj2 : (j : Int) < d 0 0 := by rw [show (tm_up d 3 1 v) 0 0 = d 0 0 from tm_uk (by decide)] at hj; exact hj
    exact (tm_uk (by decide)).trans ((h3 j (by omega)).trans (tm_uk (by decide)).symm)
  · intro j hj
    have hj2 : (j : Int) < d 0 1 := by rw [show (tm_up d 3 1 v) 0 1 = d 0 1 from tm_uk (by decide)] at hj; exact hj
    exact (tm_uk (by decide)).trans ((h4 j (by omega)).trans (tm_uk (by decide)).symm)
  · exact (tm_uj (by decide)).trans (h5.trans (tm_uj (by decide)).symm)
  · exact (tm_us).trans (tm_us).symm
  · intro j hj
    have hj2 : (j : Int) < d 3 0 := by rw [show (tm_up d 3 1 v) 3 0 = d 3 0 from tm_uj (by decide)] at hj; exact hj
    exact (tm_uk (by decide)).trans ((h7 j (by omega)).trans (tm_uk (by decide)).symm)
  · intro j hj
    have hj2 : (j : Int) < v := by rw [show (tm_up d 3 1 v) 3 1 = v from tm_us] at hj; exact hj
    exact (tm_uk (by decide)).trans ((h8 j (by omega)).trans (tm_uk (by decide)).symm)
  · intro j hj
    exact (tm_uk (by decide)).trans ((h9 j hj).trans (tm_uk (by decide)).symm)
  · rw [tm_uf (by omega)]
  · exact tm_uj (by decide)
  · exact tm_uj (by decide)
theorem rf_dial {μ d s : tm_M} (h : rf_I μ d s) (hd : dd_ok d) (k : Nat) (v : Int) (hk : k < 5) : rf_I (tm_up μ 82 k v) (tm_up d 6 k v) s := by
  obtain ⟨⟨h1, h2, h3, h4, h5, h6, h7, h8, h9⟩, hs⟩ := h
  have z1 := hd.1
  have z2 := hd.2.1
  have z3 := hd.2.2.2.2.1
  have z4 := hd.2.2.2.2.2.1
  refine ⟨⟨?_, ?_, ?_, ?_, ?_, ?_, ?_, ?_, ?_⟩, rf_d_same hs (fun a ha => ?_) ?_ ?_⟩
  · exact (tm_uk (by decide)).trans (h1.trans (tm_uk (by decide)).symm)
  · exact (tm_uk (by decide)).trans (h2.trans (tm_uk (by decide)).symm)
  · intro j hj
    have hj2 : (j : Int) < d 0 0 := by rw [show (tm_up d 6 k v) 0 0 = d 0 0 from tm_uk (by decide)] at hj; exact hj
    exact (tm_uk (by decide)).trans ((h3 j (by omega)).trans (tm_uk (by decide)).symm)
  · intro j hj
    have hj2 : (j : Int) < d 0 1 := by rw [show (tm_up d 6 k v) 0 1 = d 0 1 from tm_uk (by decide)] at hj; exact hj
    exact (tm_uk (by decide)).trans ((h4 j (by omega)).trans (tm_uk (by decide)).symm)
  · exact (tm_uk (by decide)).trans (h5.trans (tm_uk (by decide)).symm)
  · exact (tm_uk (by decide)).trans (h6.trans (tm_uk (by decide)).symm)
  · intro j hj
    have hj2 : (j : Int) < d 3 0 := by rw [show (tm_up d 6 k v) 3 0 = d 3 0 from tm_uk (by decide)] at hj; exact hj
    exact (tm_uk (by decide)).trans ((h7 j (by omega)).trans (tm_uk (by decide)).symm)
  · intro j hj
    have hj2 : (j : Int) < d 3 1 := by rw [show (tm_up d 6 k v) 3 1 = d 3 1 from tm_uk (by decide)] at hj; exact hj
    exact (tm_uk (by decide)).trans ((h8 j (by omega)).trans (tm_uk (by decide)).symm)
  · intro j hj
    by_cases hc : j = k
    · subst hc
      exact (tm_us).trans (tm_us).symm
    · exact (tm_uj hc).trans ((h9 j hj).trans (tm_uj hc).symm)
  · rw [tm_uf (by omega)]
  · exact tm_uk (by decide)
  · exact tm_uk (by decide)
theorem dd_push0 {d : tm_M} (hd : dd_ok d) {b : Int} (hb : 0 ≤ b ∧ b ≤ 255) (hn : d 0 0 < 40) : dd_ok (tm_up (tm_up d 1 (d 0 0).toNat b) 0 0 (d 0 0 + 1)) := by
  obtain ⟨h1, h2, h3, h4, h5, h6, h7, h8, h9⟩ := hd
  refine ⟨by simp [tm_up]; omega, by simp [tm_up]; exact h2, fun j hj => ?_, fun j hj => ?_, by simp [tm_up]; exact h5, by simp [tm_up]; exact h6, fun j hj => ?_, fun j hj => ?_, by simp [tm_up]; exact h9⟩
  · simp [tm_up] at hj ⊢
    by_cases hc : j = (d 0 0).toNat
    · simp [hc]; exact hb
    · simp [hc]; exact h3 j (by omega)
  · simp [tm_up] at hj ⊢; exact h4 j hj
  · simp [tm_up] at hj ⊢; exact h7 j hj
  · simp [tm_up] at hj ⊢; exact h8 j hj
theorem dd_push1 {d : tm_M} (hd : dd_ok d) {b : Int} (hb : 0 ≤ b ∧ b ≤ 255) (hn : d 0 1 < 47) : dd_ok (tm_up (tm_up d 2 (d 0 1).toNat b) 0 1 (d 0 1 + 1)) := by
  obtain ⟨h1, h2, h3, h4, h5, h6, h7, h8, h9⟩ := hd
  refine ⟨by simp [tm_up]; exact h1, by simp [tm_up]; omega, fun j hj => ?_, fun j hj => ?_, by simp [tm_up]; exact h5, by simp [tm_up]; exact h6, fun j hj => ?_, fun j hj => ?_, by simp [tm_up]; exact h9⟩
  · simp [tm_up] at hj ⊢; exact h3 j hj
  · simp [tm_up] at hj ⊢
    by_cases hc : j = (d 0 1).toNat
    · simp [hc]; exact hb
    · simp [hc]; exact h4 j (by omega)
  · simp [tm_up] at hj ⊢; exact h7 j hj
  · simp [tm_up] at hj ⊢; exact h8 j hj
theorem dd_push2 {d : tm_M} (hd : dd_ok d) {b : Int} (hb : 0 ≤ b ∧ b ≤ 39) (hn : d 3 0 < 6) : dd_ok (tm_up (tm_up d 4 (d 3 0).toNat b) 3 0 (d 3 0 + 1)) := by
  obtain ⟨h1, h2, h3, h4, h5, h6, h7, h8, h9⟩ := hd
  refine ⟨by simp [tm_up]; exact h1, by simp [tm_up]; exact h2, fun j hj => ?_, fun j hj => ?_, by simp [tm_up]; omega, by simp [tm_up]; exact h6, fun j hj => ?_, fun j hj => ?_, by simp [tm_up]; exact h9⟩
  · simp [tm_up] at hj ⊢; exact h3 j hj
  · simp [tm_up] at hj ⊢; exact h4 j hj
  · simp [tm_up] at hj ⊢
    by_cases hc : j = (d 3 0).toNat
    · simp [hc]; exact hb
    · simp [hc]; exact h7 j (by omega)
  · simp [tm_up] at hj ⊢; exact h8 j hj
theorem dd_push3 {d : tm_M} (hd : dd_ok d) {b : Int} (hb : 0 ≤ b ∧ b ≤ 39) (hn : d 3 1 < 6) : dd_ok (tm_up (tm_up d 5 (d 3 1).toNat b) 3 1 (d 3 1 + 1)) := by
  obtain ⟨h1, h2, h3, h4, h5, h6, h7, h8, h9⟩ := hd
  refine ⟨by simp [tm_up]; exact h1, by simp [tm_up]; exact h2, fun j hj => ?_, fun j hj => ?_, by simp [tm_up]; exact h5, by simp [tm_up]; omega, fun j hj => ?_, fun j hj => ?_, by simp [tm_up]; exact h9⟩
  · simp [tm_up] at hj ⊢; exact h3 j hj
  · simp [tm_up] at hj ⊢; exact h4 j hj
  · simp [tm_up] at hj ⊢; exact h7 j hj
  · simp [tm_up] at hj ⊢
    by_cases hc : j = (d 3 1).toNat
    · simp [hc]; exact hb
    · simp [hc]; exact h8 j (by omega)
theorem dd_size0 {d : tm_M} (hd : dd_ok d) {v : Int} (hv : 0 ≤ v ∧ v ≤ d 0 0) : dd_ok (tm_up d 0 0 v) := by
  obtain ⟨h1, h2, h3, h4, h5, h6, h7, h8, h9⟩ := hd
  refine ⟨by simp [tm_up]; omega, by simp [tm_up]; exact h2, fun j hj => ?_, fun j hj => ?_, by simp [tm_up]; exact h5, by simp [tm_up]; exact h6, fun j hj => ?_, fun j hj => ?_, by simp [tm_up]; exact h9⟩
  · simp [tm_up] at hj ⊢; exact h3 j (by omega)
  · simp [tm_up] at hj ⊢; exact h4 j (by omega)
  · simp [tm_up] at hj ⊢; exact h7 j (by omega)
  · simp [tm_up] at hj ⊢; exact h8 j (by omega)
theorem dd_size1 {d : tm_M} (hd : dd_ok d) {v : Int} (hv : 0 ≤ v ∧ v ≤ d 0 1) : dd_ok (tm_up d 0 1 v) := by
  obtain ⟨h1, h2, h3, h4, h5, h6, h7, h8, h9⟩ := hd
  refine ⟨by simp [tm_up]; exact h1, by simp [tm_up]; omega, fun j hj => ?_, fun j hj => ?_, by simp [tm_up]; exact h5, by simp [tm_up]; exact h6, fun j hj => ?_, fun j hj => ?_, by simp [tm_up]; exact h9⟩
  · simp [tm_up] at hj ⊢; exact h3 j (by omega)
  · simp [tm_up] at hj ⊢; exact h4 j (by omega)
  · simp [tm_up] at hj ⊢; exact h7 j (by omega)
  · simp [tm_up] at hj ⊢; exact h8 j (by omega)
theorem dd_size2 {d : tm_M} (hd : dd_ok d) {v : Int} (hv : 0 ≤ v ∧ v ≤ d 3 0) : dd_ok (tm_up d 3 0 v) := by
  obtain ⟨h1, h2, h3, h4, h5, h6, h7, h8, h9⟩ := hd
  refine ⟨by simp [tm_up]; exact h1, by simp [tm_up]; exact h2, fun j hj => ?_, fun j hj => ?_, by simp [tm_up]; omega, by simp [tm_up]; exact h6, fun j hj => ?_, fun j hj => ?_, by simp [tm_up]; exact h9⟩
  · simp [tm_up] at hj ⊢; exact h3 j (by omega)
  · simp [tm_up] at hj ⊢; exact h4 j (by omega)
  · simp [tm_up] at hj ⊢; exact h7 j (by omega)
  · simp [tm_up] at hj ⊢; exact h8 j (by omega)
theorem dd_size3 {d : tm_M} (hd : dd_ok d) {v : Int} (hv : 0 ≤ v ∧ v ≤ d 3 1) : dd_ok (tm_up d 3 1 v) := by
  obtain ⟨h1, h2, h3, h4, h5, h6, h7, h8, h9⟩ := hd
  refine ⟨by simp [tm_up]; exact h1, by simp [tm_up]; exact h2, fun j hj => ?_, fun j hj => ?_, by simp [tm_up]; exact h5, by simp [tm_up]; omega, fun j hj => ?_, fun j hj => ?_, by simp [tm_up]; exact h9⟩
  · simp [tm_up] at hj ⊢; exact h3 j (by omega)
  · simp [tm_up] at hj ⊢; exact h4 j (by omega)
  · simp [tm_up] at hj ⊢; exact h7 j (by omega)
  · simp [tm_up] at hj ⊢; exact h8 j (by omega)
theorem dd_dial {d : tm_M} (hd : dd_ok d) {k : Nat} {v : Int} (hk : k < 5) (hv : (if k = 1 ∨ k = 4 then 1 else 0) ≤ v ∧ v ≤ (if k = 0 then 20 else 9)) : dd_ok (tm_up d 6 k v) := by
  obtain ⟨h1, h2, h3, h4, h5, h6, h7, h8, a0, a1, a2, a3, a4⟩ := hd
  refine ⟨by simp [tm_up]; exact h1, by simp [tm_up]; exact h2, by simp [tm_up]; exact h3, by simp [tm_up]; exact h4, by simp [tm_up]; exact h5, by simp [tm_up]; exact h6, by simp [tm_up]; exact h7, by simp [tm_up]; exact h8, ?_⟩
  rcases (show k = 0 ∨ k = 1 ∨ k = 2 ∨ k = 3 ∨ k = 4 by omega) with rfl | rfl | rfl | rfl | rfl <;> simp [tm_up] at hv ⊢ <;> omega
