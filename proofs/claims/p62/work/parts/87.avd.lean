/-! ax: contracts, one after the other -/
set_option maxRecDepth 100000
theorem ax_v0 {N : Nat} {sy : sx_Y} (h : ax_Sc N sy) : ax_Valid N sy ax_c0 := ax_vd (g := ax_g0) h True.intro rfl rfl rfl ax_q0
theorem ax_v1 {N : Nat} {sy : sx_Y} (h : ax_Sc N sy) : ax_Valid N sy ax_c1 := ax_vd (g := ax_g1) h True.intro rfl rfl rfl ax_q1
theorem ax_v2 {N : Nat} {sy : sx_Y} (h : ax_Sc N sy) : ax_Valid N sy ax_c2 := ax_vd (g := ax_g2) h True.intro rfl rfl rfl ax_q2
theorem ax_v3 {N : Nat} {sy : sx_Y} (h : ax_Sc N sy) : ax_Valid N sy ax_c3 := ax_vd (g := ax_g3) h True.intro rfl rfl rfl ax_q3
theorem ax_v4 {N : Nat} {sy : sx_Y} (h : ax_Sc N sy) : ax_Valid N sy ax_c4 := ax_vd (g := ax_g4) h ⟨⟨ax_v3 h, True.intro⟩, ⟨⟨ax_v2 h, True.intro⟩, True.intro⟩⟩ rfl rfl rfl ax_q4
theorem ax_v5 {N : Nat} {sy : sx_Y} (h : ax_Sc N sy) : ax_Valid N sy ax_c5 := ax_vd (g := ax_g5) h True.intro rfl rfl rfl ax_q5
theorem ax_v6 {N : Nat} {sy : sx_Y} (h : ax_Sc N sy) : ax_Valid N sy ax_c6 := ax_vd (g := ax_g6) h True.intro rfl rfl rfl ax_q6
theorem ax_v7 {N : Nat} {sy : sx_Y} (h : ax_Sc N sy) : ax_Valid N sy ax_c7 := ax_vd (g := ax_g7) h ⟨⟨ax_v6 h, True.intro⟩, ⟨⟨ax_v2 h, True.intro⟩, True.intro⟩⟩ rfl rfl rfl ax_q7
theorem ax_v8 {N : Nat} {sy : sx_Y} (h : ax_Sc N sy) : ax_Valid N sy ax_c8 := ax_vd (g := ax_g8) h True.intro rfl rfl rfl ax_q8
theorem ax_v9 {N : Nat} {sy : sx_Y} (h : ax_Sc N sy) : ax_Valid N sy ax_c9 := ax_vd (g := ax_g9) h ⟨⟨ax_v8 h, True.intro⟩, ⟨⟨ax_v2 h, True.intro⟩, True.intro⟩⟩ rfl rfl rfl ax_q9
theorem ax_v10 {N : Nat} {sy : sx_Y} (h : ax_Sc N sy) : ax_Valid N sy ax_c10 := ax_vd (g := ax_g10) h True.intro rfl rfl rfl ax_q10
theorem ax_v11 {N : Nat} {sy : sx_Y} (h : ax_Sc N sy) : ax_Valid N sy ax_c11 := ax_vd (g := ax_g11) h ⟨⟨ax_v10 h, True.intro⟩, ⟨⟨ax_v2 h, True.intro⟩, True.intro⟩⟩ rfl rfl rfl ax_q11
theorem ax_v12 {N : Nat} {sy : sx_Y} (h : ax_Sc N sy) : ax_Valid N sy ax_c12 := ax_vd (g := ax_g12) h True.intro rfl rfl rfl ax_q12
theorem ax_v13 {N : Nat} {sy : sx_Y} (h : ax_Sc N sy) : ax_Valid N sy ax_c13 := ax_vd (g := ax_g13) h ⟨⟨ax_v12 h, True.intro⟩, ⟨⟨ax_v2 h, True.intro⟩, True.intro⟩⟩ rfl rfl rfl ax_q13
theorem ax_v14 {N : Nat} {sy : sx_Y} (h : ax_Sc N sy) : ax_Valid N sy ax_c14 := ax_vd (g := ax_g14) h True.intro rfl rfl rfl ax_q14
theorem ax_v15 {N : Nat} {sy : sx_Y} (h : ax_Sc N sy) : ax_Valid N sy ax_c15 := ax_vd (g := ax_g15) h ⟨⟨ax_v14 h, True.intro⟩, ⟨⟨ax_v2 h, True.intro⟩, True.intro⟩⟩ rfl rfl rfl ax_q15
theorem ax_v16 {N : Nat} {sy : sx_Y} (h : ax_Sc N sy) : ax_Valid N sy ax_c16 := ax_vd (g := ax_g16) h True.intro rfl rfl rfl ax_q16
theorem ax_v17 {N : Nat} {sy : sx_Y} (h : ax_Sc N sy) : ax_Valid N sy ax_c17 := ax_vd (g := ax_g17) h ⟨⟨ax_v16 h, True.intro⟩, ⟨⟨ax_v2 h, True.intro⟩, True.intro⟩⟩ rfl rfl rfl ax_q17
theorem ax_v18 {N : Nat} {sy : sx_Y} (h : ax_Sc N sy) : ax_Valid N sy ax_c18 := ax_vd (g := ax_g18) h True.intro rfl rfl rfl ax_q18
theorem ax_v19 {N : Nat} {sy : sx_Y} (h : ax_Sc N sy) : ax_Valid N sy ax_c19 := ax_vd (g := ax_g19) h ⟨⟨ax_v18 h, True.intro⟩, ⟨⟨ax_v2 h, True.intro⟩, True.intro⟩⟩ rfl rfl rfl ax_q19
theorem ax_v20 {N : Nat} {sy : sx_Y} (h : ax_Sc N sy) : ax_Valid N sy ax_c20 := ax_vd (g := ax_g20) h ⟨⟨ax_v2 h, True.intro⟩, True.intro⟩ rfl rfl rfl ax_q20
theorem ax_v21 {N : Nat} {sy : sx_Y} (h : ax_Sc N sy) : ax_Valid N sy ax_c21 := ax_vd (g := ax_g21) h ⟨⟨ax_v2 h, True.intro⟩, True.intro⟩ rfl rfl rfl ax_q21
theorem ax_v22 {N : Nat} {sy : sx_Y} (h : ax_Sc N sy) : ax_Valid N sy ax_c22 := ax_vd (g := ax_g22) h ⟨⟨ax_v2 h, True.intro⟩, True.intro⟩ rfl rfl rfl ax_q22
theorem ax_v23 {N : Nat} {sy : sx_Y} (h : ax_Sc N sy) : ax_Valid N sy ax_c23 := ax_vd (g := ax_g23) h ⟨⟨ax_v2 h, True.intro⟩, True.intro⟩ rfl rfl rfl ax_q23
theorem ax_v24 {N : Nat} {sy : sx_Y} (h : ax_Sc N sy) : ax_Valid N sy ax_c24 := ax_vd (g := ax_g24) h ⟨⟨ax_v11 h, ⟨ax_v13 h, ⟨ax_v15 h, ⟨ax_v17 h, ⟨ax_v19 h, True.intro⟩⟩⟩⟩⟩, ⟨⟨ax_v20 h, ⟨ax_v21 h, ⟨ax_v22 h, ⟨ax_v23 h, True.intro⟩⟩⟩⟩, True.intro⟩⟩ rfl rfl rfl ax_q24
theorem ax_v25 {N : Nat} {sy : sx_Y} (h : ax_Sc N sy) : ax_Valid N sy ax_c25 := ax_vd (g := ax_g25) h ⟨⟨ax_v2 h, True.intro⟩, True.intro⟩ rfl rfl rfl ax_q25
theorem ax_v26 {N : Nat} {sy : sx_Y} (h : ax_Sc N sy) : ax_Valid N sy ax_c26 := ax_vd (g := ax_g26) h ⟨⟨ax_v25 h, True.intro⟩, True.intro⟩ rfl rfl rfl ax_q26
theorem ax_v27 {N : Nat} {sy : sx_Y} (h : ax_Sc N sy) : ax_Valid N sy ax_c27 := ax_vd (g := ax_g27) h ⟨⟨ax_v2 h, True.intro⟩, True.intro⟩ rfl rfl rfl ax_q27
theorem ax_v28 {N : Nat} {sy : sx_Y} (h : ax_Sc N sy) : ax_Valid N sy ax_c28 := ax_vd (g := ax_g28) h ⟨⟨ax_v27 h, True.intro⟩, True.intro⟩ rfl rfl rfl ax_q28
theorem ax_v29 {N : Nat} {sy : sx_Y} (h : ax_Sc N sy) : ax_Valid N sy ax_c29 := ax_vd (g := ax_g29) h True.intro rfl rfl rfl ax_q29
theorem ax_v30 {N : Nat} {sy : sx_Y} (h : ax_Sc N sy) : ax_Valid N sy ax_c30 := ax_vd (g := ax_g30) h ⟨⟨ax_v29 h, True.intro⟩, ⟨⟨ax_v2 h, True.intro⟩, True.intro⟩⟩ rfl rfl rfl ax_q30
theorem ax_v31 {N : Nat} {sy : sx_Y} (h : ax_Sc N sy) : ax_Valid N sy ax_c31 := ax_vd (g := ax_g31) h True.intro rfl rfl rfl ax_q31
theorem ax_v32 {N : Nat} {sy : sx_Y} (h : ax_Sc N sy) : ax_Valid N sy ax_c32 := ax_vd (g := ax_g32) h ⟨⟨ax_v31 h, True.intro⟩, ⟨⟨ax_v2 h, True.intro⟩, True.intro⟩⟩ rfl rfl rfl ax_q32
theorem ax_v33 {N : Nat} {sy : sx_Y} (h : ax_Sc N sy) : ax_Valid N sy ax_c33 := ax_vd (g := ax_g33) h True.intro rfl rfl rfl ax_q33
theorem ax_v34 {N : Nat} {sy : sx_Y} (h : ax_Sc N sy) : ax_Valid N sy ax_c34 := ax_vd (g := ax_g34) h ⟨⟨ax_v33 h, True.intro⟩, ⟨⟨ax_v2 h, True.intro⟩, True.intro⟩⟩ rfl rfl rfl ax_q34
theorem ax_v35 {N : Nat} {sy : sx_Y} (h : ax_Sc N sy) : ax_Valid N sy ax_c35 := ax_vd (g := ax_g35) h ⟨⟨ax_v2 h, True.intro⟩, True.intro⟩ rfl rfl rfl ax_q35
theorem ax_v36 {N : Nat} {sy : sx_Y} (h : ax_Sc N sy) : ax_Valid N sy ax_c36 := ax_vd (g := ax_g36) h True.intro rfl rfl rfl ax_q36
theorem ax_v37 {N : Nat} {sy : sx_Y} (h : ax_Sc N sy) : ax_Valid N sy ax_c37 := ax_vd (g := ax_g37) h ⟨⟨ax_v36 h, True.intro⟩, ⟨⟨ax_v2 h, True.intro⟩, True.intro⟩⟩ rfl rfl rfl ax_q37
theorem ax_v38 {N : Nat} {sy : sx_Y} (h : ax_Sc N sy) : ax_Valid N sy ax_c38 := ax_vd (g := ax_g38) h ⟨⟨ax_v2 h, True.intro⟩, True.intro⟩ rfl rfl rfl ax_q38
theorem ax_v39 {N : Nat} {sy : sx_Y} (h : ax_Sc N sy) : ax_Valid N sy ax_c39 := ax_vd (g := ax_g39) h ⟨⟨ax_v30 h, ⟨ax_v32 h, ⟨ax_v34 h, ⟨ax_v37 h, True.intro⟩⟩⟩⟩, ⟨⟨ax_v21 h, ⟨ax_v27 h, ⟨ax_v35 h, ⟨ax_v38 h, True.intro⟩⟩⟩⟩, True.intro⟩⟩ rfl rfl rfl ax_q39
theorem ax_v40 {N : Nat} {sy : sx_Y} (h : ax_Sc N sy) : ax_Valid N sy ax_c40 := ax_vd (g := ax_g40) h ⟨⟨ax_v4 h, ⟨ax_v7 h, ⟨ax_v9 h, True.intro⟩⟩⟩, ⟨⟨ax_v5 h, True.intro⟩, ⟨⟨ax_v24 h, True.intro⟩, ⟨⟨ax_v26 h, True.intro⟩, ⟨⟨ax_v28 h, True.intro⟩, ⟨⟨ax_v2 h, True.intro⟩, ⟨⟨ax_v39 h, True.intro⟩, True.intro⟩⟩⟩⟩⟩⟩⟩ rfl rfl rfl ax_q40
theorem ax_v41 {N : Nat} {sy : sx_Y} (h : ax_Sc N sy) : ax_Valid N sy ax_c41 := ax_vd (g := ax_g41) h ⟨⟨ax_v2 h, True.intro⟩, ⟨⟨ax_v40 h, True.intro⟩, True.intro⟩⟩ rfl rfl rfl ax_q41
theorem ax_v42 {N : Nat} {sy : sx_Y} (h : ax_Sc N sy) : ax_Valid N sy ax_c42 := ax_vd (g := ax_g42) h True.intro rfl rfl rfl ax_q42
theorem ax_v43 {N : Nat} {sy : sx_Y} (h : ax_Sc N sy) : ax_Valid N sy ax_c43 := ax_vd (g := ax_g43) h True.intro rfl rfl rfl ax_q43
theorem ax_v44 {N : Nat} {sy : sx_Y} (h : ax_Sc N sy) : ax_Valid N sy ax_c44 := ax_vd (g := ax_g44) h ⟨⟨ax_v43 h, True.intro⟩, True.intro⟩ rfl rfl rfl ax_q44
theorem ax_v45 {N : Nat} {sy : sx_Y} (h : ax_Sc N sy) : ax_Valid N sy ax_c45 := ax_vd (g := ax_g45) h True.intro rfl rfl rfl ax_q45
theorem ax_v46 {N : Nat} {sy : sx_Y} (h : ax_Sc N sy) : ax_Valid N sy ax_c46 := ax_vd (g := ax_g46) h ⟨⟨ax_v43 h, True.intro⟩, True.intro⟩ rfl rfl rfl ax_q46
theorem ax_v47 {N : Nat} {sy : sx_Y} (h : ax_Sc N sy) : ax_Valid N sy ax_c47 := ax_vd (g := ax_g47) h ⟨⟨ax_v43 h, True.intro⟩, True.intro⟩ rfl rfl rfl ax_q47
theorem ax_v48 {N : Nat} {sy : sx_Y} (h : ax_Sc N sy) : ax_Valid N sy ax_c48 := ax_vd (g := ax_g48) h ⟨⟨ax_v43 h, True.intro⟩, True.intro⟩ rfl rfl rfl ax_q48
theorem ax_v49 {N : Nat} {sy : sx_Y} (h : ax_Sc N sy) : ax_Valid N sy ax_c49 := ax_vd (g := ax_g49) h ⟨⟨ax_v43 h, True.intro⟩, True.intro⟩ rfl rfl rfl ax_q49
theorem ax_v50 {N : Nat} {sy : sx_Y} (h : ax_Sc N sy) : ax_Valid N sy ax_c50 := ax_vd (g := ax_g50) h ⟨⟨ax_v43 h, True.intro⟩, True.intro⟩ rfl rfl rfl ax_q50
theorem ax_v51 {N : Nat} {sy : sx_Y} (h : ax_Sc N sy) : ax_Valid N sy ax_c51 := ax_vd (g := ax_g51) h ⟨⟨ax_v43 h, True.intro⟩, True.intro⟩ rfl rfl rfl ax_q51
theorem ax_v52 {N : Nat} {sy : sx_Y} (h : ax_Sc N sy) : ax_Valid N sy ax_c52 := ax_vd (g := ax_g52) h ⟨⟨ax_v43 h, True.intro⟩, True.intro⟩ rfl rfl rfl ax_q52
theorem ax_v53 {N : Nat} {sy : sx_Y} (h : ax_Sc N sy) : ax_Valid N sy ax_c53 := ax_vd (g := ax_g53) h ⟨⟨ax_v43 h, True.intro⟩, True.intro⟩ rfl rfl rfl ax_q53
theorem ax_v54 {N : Nat} {sy : sx_Y} (h : ax_Sc N sy) : ax_Valid N sy ax_c54 := ax_vd (g := ax_g54) h ⟨⟨ax_v43 h, True.intro⟩, True.intro⟩ rfl rfl rfl ax_q54
theorem ax_v55 {N : Nat} {sy : sx_Y} (h : ax_Sc N sy) : ax_Valid N sy ax_c55 := ax_vd (g := ax_g55) h ⟨⟨ax_v43 h, True.intro⟩, True.intro⟩ rfl rfl rfl ax_q55
theorem ax_v56 {N : Nat} {sy : sx_Y} (h : ax_Sc N sy) : ax_Valid N sy ax_c56 := ax_vd (g := ax_g56) h True.intro rfl rfl rfl ax_q56
theorem ax_v57 {N : Nat} {sy : sx_Y} (h : ax_Sc N sy) : ax_Valid N sy ax_c57 := ax_vd (g := ax_g57) h ⟨⟨ax_v43 h, True.intro⟩, True.intro⟩ rfl rfl rfl ax_q57
theorem ax_v58 {N : Nat} {sy : sx_Y} (h : ax_Sc N sy) : ax_Valid N sy ax_c58 := ax_vd (g := ax_g58) h ⟨⟨ax_v43 h, True.intro⟩, True.intro⟩ rfl rfl rfl ax_q58
theorem ax_v59 {N : Nat} {sy : sx_Y} (h : ax_Sc N sy) : ax_Valid N sy ax_c59 := ax_vd (g := ax_g59) h ⟨⟨ax_v43 h, True.intro⟩, True.intro⟩ rfl rfl rfl ax_q59
theorem ax_v60 {N : Nat} {sy : sx_Y} (h : ax_Sc N sy) : ax_Valid N sy ax_c60 := ax_vd (g := ax_g60) h ⟨⟨ax_v43 h, True.intro⟩, True.intro⟩ rfl rfl rfl ax_q60
theorem ax_v61 {N : Nat} {sy : sx_Y} (h : ax_Sc N sy) : ax_Valid N sy ax_c61 := ax_vd (g := ax_g61) h ⟨⟨ax_v43 h, True.intro⟩, True.intro⟩ rfl rfl rfl ax_q61
theorem ax_v62 {N : Nat} {sy : sx_Y} (h : ax_Sc N sy) : ax_Valid N sy ax_c62 := ax_vd (g := ax_g62) h ⟨⟨ax_v43 h, True.intro⟩, True.intro⟩ rfl rfl rfl ax_q62
theorem ax_v63 {N : Nat} {sy : sx_Y} (h : ax_Sc N sy) : ax_Valid N sy ax_c63 := ax_vd (g := ax_g63) h ⟨⟨ax_v43 h, True.intro⟩, True.intro⟩ rfl rfl rfl ax_q63
theorem ax_v64 {N : Nat} {sy : sx_Y} (h : ax_Sc N sy) : ax_Valid N sy ax_c64 := ax_vd (g := ax_g64) h ⟨⟨ax_v43 h, True.intro⟩, True.intro⟩ rfl rfl rfl ax_q64
theorem ax_v65 {N : Nat} {sy : sx_Y} (h : ax_Sc N sy) : ax_Valid N sy ax_c65 := ax_vd (g := ax_g65) h ⟨⟨ax_v43 h, True.intro⟩, True.intro⟩ rfl rfl rfl ax_q65
theorem ax_v66 {N : Nat} {sy : sx_Y} (h : ax_Sc N sy) : ax_Valid N sy ax_c66 := ax_vd (g := ax_g66) h ⟨⟨ax_v43 h, True.intro⟩, True.intro⟩ rfl rfl rfl ax_q66
theorem ax_v67 {N : Nat} {sy : sx_Y} (h : ax_Sc N sy) : ax_Valid N sy ax_c67 := ax_vd (g := ax_g67) h True.intro rfl rfl rfl ax_q67
theorem ax_v68 {N : Nat} {sy : sx_Y} (h : ax_Sc N sy) : ax_Valid N sy ax_c68 := ax_vd (g := ax_g68) h ⟨⟨ax_v43 h, True.intro⟩, ⟨⟨ax_v44 h, ⟨ax_v46 h, ⟨ax_v48 h, ⟨ax_v50 h, ⟨ax_v52 h, ⟨ax_v54 h, ⟨ax_v55 h, ⟨ax_v57 h, ⟨ax_v59 h, ⟨ax_v61 h, ⟨ax_v62 h, ⟨ax_v64 h, ⟨ax_v65 h, True.intro⟩⟩⟩⟩⟩⟩⟩⟩⟩⟩⟩⟩⟩, ⟨⟨ax_v47 h, ⟨ax_v49 h, ⟨ax_v51 h, ⟨ax_v53 h, ⟨ax_v58 h, ⟨ax_v60 h, ⟨ax_v63 h, ⟨ax_v66 h, ⟨ax_v45 h, ⟨ax_v56 h, ⟨ax_v67 h, True.intro⟩⟩⟩⟩⟩⟩⟩⟩⟩⟩⟩, True.intro⟩⟩⟩ rfl rfl rfl ax_q68
theorem ax_v69 {N : Nat} {sy : sx_Y} (h : ax_Sc N sy) : ax_Valid N sy ax_c69 := ax_vd (g := ax_g69) h ⟨⟨ax_v43 h, True.intro⟩, ⟨⟨ax_v68 h, True.intro⟩, True.intro⟩⟩ rfl rfl rfl ax_q69
theorem ax_v70 {N : Nat} {sy : sx_Y} (h : ax_Sc N sy) : ax_Valid N sy ax_c70 := ax_vd (g := ax_g70) h True.intro rfl rfl rfl ax_q70
theorem ax_v71 {N : Nat} {sy : sx_Y} (h : ax_Sc N sy) : ax_Valid N sy ax_c71 := ax_vd (g := ax_g71) h ⟨⟨ax_v42 h, True.intro⟩, ⟨⟨ax_v70 h, True.intro⟩, ⟨⟨ax_v69 h, True.intro⟩, True.intro⟩⟩⟩ rfl rfl rfl ax_q71
theorem ax_v72 {N : Nat} {sy : sx_Y} (h : ax_Sc N sy) : ax_Valid N sy ax_c72 := ax_vd (g := ax_g72) h True.intro rfl rfl rfl ax_q72
theorem ax_v73 {N : Nat} {sy : sx_Y} (h : ax_Sc N sy) : ax_Valid N sy ax_c73 := ax_vd (g := ax_g73) h True.intro rfl rfl rfl ax_q73
theorem ax_v74 {N : Nat} {sy : sx_Y} (h : ax_Sc N sy) : ax_Valid N sy ax_c74 := ax_vd (g := ax_g74) h ⟨⟨ax_v73 h, True.intro⟩, ⟨⟨ax_v72 h, True.intro⟩, True.intro⟩⟩ rfl rfl rfl ax_q74
theorem ax_v75 {N : Nat} {sy : sx_Y} (h : ax_Sc N sy) : ax_Valid N sy ax_c75 := ax_vd (g := ax_g75) h True.intro rfl rfl rfl ax_q75
theorem ax_v76 {N : Nat} {sy : sx_Y} (h : ax_Sc N sy) : ax_Valid N sy ax_c76 := ax_vd (g := ax_g76) h ⟨⟨ax_v75 h, True.intro⟩, ⟨⟨ax_v72 h, True.intro⟩, True.intro⟩⟩ rfl rfl rfl ax_q76
theorem ax_v77 {N : Nat} {sy : sx_Y} (h : ax_Sc N sy) : ax_Valid N sy ax_c77 := ax_vd (g := ax_g77) h True.intro rfl rfl rfl ax_q77
theorem ax_v78 {N : Nat} {sy : sx_Y} (h : ax_Sc N sy) : ax_Valid N sy ax_c78 := ax_vd (g := ax_g78) h ⟨⟨ax_v77 h, True.intro⟩, ⟨⟨ax_v72 h, True.intro⟩, True.intro⟩⟩ rfl rfl rfl ax_q78
theorem ax_v79 {N : Nat} {sy : sx_Y} (h : ax_Sc N sy) : ax_Valid N sy ax_c79 := ax_vd (g := ax_g79) h True.intro rfl rfl rfl ax_q79
theorem ax_v80 {N : Nat} {sy : sx_Y} (h : ax_Sc N sy) : ax_Valid N sy ax_c80 := ax_vd (g := ax_g80) h ⟨⟨ax_v79 h, True.intro⟩, ⟨⟨ax_v72 h, True.intro⟩, True.intro⟩⟩ rfl rfl rfl ax_q80
theorem ax_v81 {N : Nat} {sy : sx_Y} (h : ax_Sc N sy) : ax_Valid N sy ax_c81 := ax_vd (g := ax_g81) h True.intro rfl rfl rfl ax_q81
theorem ax_v82 {N : Nat} {sy : sx_Y} (h : ax_Sc N sy) : ax_Valid N sy ax_c82 := ax_vd (g := ax_g82) h ⟨⟨ax_v81 h, True.intro⟩, ⟨⟨ax_v72 h, True.intro⟩, True.intro⟩⟩ rfl rfl rfl ax_q82
theorem ax_v83 {N : Nat} {sy : sx_Y} (h : ax_Sc N sy) : ax_Valid N sy ax_c83 := ax_vd (g := ax_g83) h True.intro rfl rfl rfl ax_q83
theorem ax_v84 {N : Nat} {sy : sx_Y} (h : ax_Sc N sy) : ax_Valid N sy ax_c84 := ax_vd (g := ax_g84) h ⟨⟨ax_v83 h, True.intro⟩, ⟨⟨ax_v72 h, True.intro⟩, True.intro⟩⟩ rfl rfl rfl ax_q84
theorem ax_v85 {N : Nat} {sy : sx_Y} (h : ax_Sc N sy) : ax_Valid N sy ax_c85 := ax_vd (g := ax_g85) h True.intro rfl rfl rfl ax_q85
theorem ax_v86 {N : Nat} {sy : sx_Y} (h : ax_Sc N sy) : ax_Valid N sy ax_c86 := ax_vd (g := ax_g86) h ⟨⟨ax_v85 h, True.intro⟩, ⟨⟨ax_v72 h, True.intro⟩, True.intro⟩⟩ rfl rfl rfl ax_q86
theorem ax_v87 {N : Nat} {sy : sx_Y} (h : ax_Sc N sy) : ax_Valid N sy ax_c87 := ax_vd (g := ax_g87) h True.intro rfl rfl rfl ax_q87
theorem ax_v88 {N : Nat} {sy : sx_Y} (h : ax_Sc N sy) : ax_Valid N sy ax_c88 := ax_vd (g := ax_g88) h True.intro rfl rfl rfl ax_q88
theorem ax_v89 {N : Nat} {sy : sx_Y} (h : ax_Sc N sy) : ax_Valid N sy ax_c89 := ax_vd (g := ax_g89) h True.intro rfl rfl rfl ax_q89
theorem ax_v90 {N : Nat} {sy : sx_Y} (h : ax_Sc N sy) : ax_Valid N sy ax_c90 := ax_vd (g := ax_g90) h True.intro rfl rfl rfl ax_q90
theorem ax_v91 {N : Nat} {sy : sx_Y} (h : ax_Sc N sy) : ax_Valid N sy ax_c91 := ax_vd (g := ax_g91) h True.intro rfl rfl rfl ax_q91
theorem ax_v92 {N : Nat} {sy : sx_Y} (h : ax_Sc N sy) : ax_Valid N sy ax_c92 := ax_vd (g := ax_g92) h True.intro rfl rfl rfl ax_q92
theorem ax_v93 {N : Nat} {sy : sx_Y} (h : ax_Sc N sy) : ax_Valid N sy ax_c93 := ax_vd (g := ax_g93) h True.intro rfl rfl rfl ax_q93
theorem ax_v94 {N : Nat} {sy : sx_Y} (h : ax_Sc N sy) : ax_Valid N sy ax_c94 := ax_vd (g := ax_g94) h ⟨⟨ax_v87 h, ⟨ax_v88 h, ⟨ax_v89 h, ⟨ax_v90 h, ⟨ax_v91 h, ⟨ax_v92 h, ⟨ax_v93 h, True.intro⟩⟩⟩⟩⟩⟩⟩, True.intro⟩ rfl rfl rfl ax_q94
theorem ax_v95 {N : Nat} {sy : sx_Y} (h : ax_Sc N sy) : ax_Valid N sy ax_c95 := ax_vd (g := ax_g95) h ⟨⟨ax_v72 h, True.intro⟩, True.intro⟩ rfl rfl rfl ax_q95
theorem ax_v96 {N : Nat} {sy : sx_Y} (h : ax_Sc N sy) : ax_Valid N sy ax_c96 := ax_vd (g := ax_g96) h ⟨⟨ax_v94 h, True.intro⟩, ⟨⟨ax_v95 h, True.intro⟩, ⟨⟨ax_v72 h, True.intro⟩, True.intro⟩⟩⟩ rfl rfl rfl ax_q96
theorem ax_v97 {N : Nat} {sy : sx_Y} (h : ax_Sc N sy) : ax_Valid N sy ax_c97 := ax_vd (g := ax_g97) h ⟨⟨ax_v72 h, True.intro⟩, ⟨⟨ax_v82 h, ⟨ax_v84 h, ⟨ax_v86 h, True.intro⟩⟩⟩, ⟨⟨ax_v96 h, True.intro⟩, True.intro⟩⟩⟩ rfl rfl rfl ax_q97
theorem ax_v98 {N : Nat} {sy : sx_Y} (h : ax_Sc N sy) : ax_Valid N sy ax_c98 := ax_vd (g := ax_g98) h True.intro rfl rfl rfl ax_q98
theorem ax_v99 {N : Nat} {sy : sx_Y} (h : ax_Sc N sy) : ax_Valid N sy ax_c99 := ax_vd (g := ax_g99) h ⟨⟨ax_v98 h, True.intro⟩, ⟨⟨ax_v72 h, True.intro⟩, True.intro⟩⟩ rfl rfl rfl ax_q99
theorem ax_v100 {N : Nat} {sy : sx_Y} (h : ax_Sc N sy) : ax_Valid N sy ax_c100 := ax_vd (g := ax_g100) h True.intro rfl rfl rfl ax_q100
theorem ax_v101 {N : Nat} {sy : sx_Y} (h : ax_Sc N sy) : ax_Valid N sy ax_c101 := ax_vd (g := ax_g101) h ⟨⟨ax_v100 h, True.intro⟩, ⟨⟨ax_v72 h, True.intro⟩, True.intro⟩⟩ rfl rfl rfl ax_q101
theorem ax_v102 {N : Nat} {sy : sx_Y} (h : ax_Sc N sy) : ax_Valid N sy ax_c102 := ax_vd (g := ax_g102) h ⟨⟨ax_v97 h, True.intro⟩, ⟨⟨ax_v99 h, ⟨ax_v101 h, True.intro⟩⟩, True.intro⟩⟩ rfl rfl rfl ax_q102
theorem ax_v103 {N : Nat} {sy : sx_Y} (h : ax_Sc N sy) : ax_Valid N sy ax_c103 := ax_vd (g := ax_g103) h ⟨⟨ax_v72 h, True.intro⟩, ⟨⟨ax_v102 h, True.intro⟩, ⟨⟨ax_v82 h, ⟨ax_v84 h, ⟨ax_v86 h, True.intro⟩⟩⟩, ⟨⟨ax_v96 h, True.intro⟩, ⟨⟨ax_v97 h, True.intro⟩, True.intro⟩⟩⟩⟩⟩ rfl rfl rfl ax_q103
theorem ax_v104 {N : Nat} {sy : sx_Y} (h : ax_Sc N sy) : ax_Valid N sy ax_c104 := ax_vd (g := ax_g104) h ⟨⟨ax_v103 h, True.intro⟩, ⟨⟨ax_v99 h, ⟨ax_v101 h, True.intro⟩⟩, True.intro⟩⟩ rfl rfl rfl ax_q104
theorem ax_v105 {N : Nat} {sy : sx_Y} (h : ax_Sc N sy) : ax_Valid N sy ax_c105 := ax_vd (g := ax_g105) h ⟨⟨ax_v72 h, True.intro⟩, ⟨⟨ax_v104 h, True.intro⟩, ⟨⟨ax_v82 h, ⟨ax_v84 h, ⟨ax_v86 h, True.intro⟩⟩⟩, ⟨⟨ax_v96 h, True.intro⟩, ⟨⟨ax_v103 h, True.intro⟩, True.intro⟩⟩⟩⟩⟩ rfl rfl rfl ax_q105
theorem ax_v106 {N : Nat} {sy : sx_Y} (h : ax_Sc N sy) : ax_Valid N sy ax_c106 := ax_vd (g := ax_g106) h ⟨⟨ax_v105 h, True.intro⟩, ⟨⟨ax_v99 h, ⟨ax_v101 h, True.intro⟩⟩, True.intro⟩⟩ rfl rfl rfl ax_q106
theorem ax_v107 {N : Nat} {sy : sx_Y} (h : ax_Sc N sy) : ax_Valid N sy ax_c107 := ax_vd (g := ax_g107) h ⟨⟨ax_v72 h, True.intro⟩, ⟨⟨ax_v106 h, True.intro⟩, ⟨⟨ax_v82 h, ⟨ax_v84 h, ⟨ax_v86 h, True.intro⟩⟩⟩, ⟨⟨ax_v96 h, True.intro⟩, ⟨⟨ax_v105 h, True.intro⟩, True.intro⟩⟩⟩⟩⟩ rfl rfl rfl ax_q107
theorem ax_v108 {N : Nat} {sy : sx_Y} (h : ax_Sc N sy) : ax_Valid N sy ax_c108 := ax_vd (g := ax_g108) h ⟨⟨ax_v107 h, True.intro⟩, ⟨⟨ax_v99 h, ⟨ax_v101 h, True.intro⟩⟩, True.intro⟩⟩ rfl rfl rfl ax_q108
theorem ax_v109 {N : Nat} {sy : sx_Y} (h : ax_Sc N sy) : ax_Valid N sy ax_c109 := ax_vd (g := ax_g109) h ⟨⟨ax_v72 h, True.intro⟩, ⟨⟨ax_v108 h, True.intro⟩, ⟨⟨ax_v82 h, ⟨ax_v84 h, ⟨ax_v86 h, True.intro⟩⟩⟩, ⟨⟨ax_v96 h, True.intro⟩, ⟨⟨ax_v107 h, True.intro⟩, True.intro⟩⟩⟩⟩⟩ rfl rfl rfl ax_q109
theorem ax_v110 {N : Nat} {sy : sx_Y} (h : ax_Sc N sy) : ax_Valid N sy ax_c110 := ax_vd (g := ax_g110) h ⟨⟨ax_v109 h, True.intro⟩, ⟨⟨ax_v99 h, ⟨ax_v101 h, True.intro⟩⟩, True.intro⟩⟩ rfl rfl rfl ax_q110
theorem ax_v111 {N : Nat} {sy : sx_Y} (h : ax_Sc N sy) : ax_Valid N sy ax_c111 := ax_vd (g := ax_g111) h ⟨⟨ax_v72 h, True.intro⟩, ⟨⟨ax_v110 h, True.intro⟩, ⟨⟨ax_v82 h, ⟨ax_v84 h, ⟨ax_v86 h, True.intro⟩⟩⟩, ⟨⟨ax_v96 h, True.intro⟩, ⟨⟨ax_v109 h, True.intro⟩, True.intro⟩⟩⟩⟩⟩ rfl rfl rfl ax_q111
theorem ax_v112 {N : Nat} {sy : sx_Y} (h : ax_Sc N sy) : ax_Valid N sy ax_c112 := ax_vd (g := ax_g112) h ⟨⟨ax_v111 h, True.intro⟩, ⟨⟨ax_v99 h, ⟨ax_v101 h, True.intro⟩⟩, True.intro⟩⟩ rfl rfl rfl ax_q112
theorem ax_v113 {N : Nat} {sy : sx_Y} (h : ax_Sc N sy) : ax_Valid N sy ax_c113 := ax_vd (g := ax_g113) h ⟨⟨ax_v72 h, True.intro⟩, ⟨⟨ax_v112 h, True.intro⟩, ⟨⟨ax_v82 h, ⟨ax_v84 h, ⟨ax_v86 h, True.intro⟩⟩⟩, ⟨⟨ax_v96 h, True.intro⟩, ⟨⟨ax_v111 h, True.intro⟩, True.intro⟩⟩⟩⟩⟩ rfl rfl rfl ax_q113
theorem ax_v114 {N : Nat} {sy : sx_Y} (h : ax_Sc N sy) : ax_Valid N sy ax_c114 := ax_vd (g := ax_g114) h ⟨⟨ax_v113 h, True.intro⟩, ⟨⟨ax_v99 h, ⟨ax_v101 h, True.intro⟩⟩, True.intro⟩⟩ rfl rfl rfl ax_q114
theorem ax_v115 {N : Nat} {sy : sx_Y} (h : ax_Sc N sy) : ax_Valid N sy ax_c115 := ax_vd (g := ax_g115) h ⟨⟨ax_v72 h, True.intro⟩, True.intro⟩ rfl rfl rfl ax_q115
theorem ax_v116 {N : Nat} {sy : sx_Y} (h : ax_Sc N sy) : ax_Valid N sy ax_c116 := ax_vd (g := ax_g116) h ⟨⟨ax_v74 h, ⟨ax_v76 h, ⟨ax_v78 h, ⟨ax_v80 h, True.intro⟩⟩⟩⟩, ⟨⟨ax_v114 h, True.intro⟩, ⟨⟨ax_v115 h, True.intro⟩, True.intro⟩⟩⟩ rfl rfl rfl ax_q116
theorem ax_v117 {N : Nat} {sy : sx_Y} (h : ax_Sc N sy) : ax_Valid N sy ax_c117 := ax_vd (g := ax_g117) h ⟨⟨ax_v72 h, True.intro⟩, ⟨⟨ax_v116 h, True.intro⟩, True.intro⟩⟩ rfl rfl rfl ax_q117
theorem ax_v118 {N : Nat} {sy : sx_Y} (h : ax_Sc N sy) : ax_Valid N sy ax_c118 := ax_vd (g := ax_g118) h ⟨⟨ax_v43 h, True.intro⟩, True.intro⟩ rfl rfl rfl ax_q118
theorem ax_v119 {N : Nat} {sy : sx_Y} (h : ax_Sc N sy) : ax_Valid N sy ax_c119 := ax_vd (g := ax_g119) h ⟨⟨ax_v43 h, True.intro⟩, True.intro⟩ rfl rfl rfl ax_q119
theorem ax_v120 {N : Nat} {sy : sx_Y} (h : ax_Sc N sy) : ax_Valid N sy ax_c120 := ax_vd (g := ax_g120) h ⟨⟨ax_v43 h, True.intro⟩, True.intro⟩ rfl rfl rfl ax_q120
theorem ax_v121 {N : Nat} {sy : sx_Y} (h : ax_Sc N sy) : ax_Valid N sy ax_c121 := ax_vd (g := ax_g121) h ⟨⟨ax_v43 h, True.intro⟩, True.intro⟩ rfl rfl rfl ax_q121
theorem ax_v122 {N : Nat} {sy : sx_Y} (h : ax_Sc N sy) : ax_Valid N sy ax_c122 := ax_vd (g := ax_g122) h ⟨⟨ax_v43 h, True.intro⟩, True.intro⟩ rfl rfl rfl ax_q122
theorem ax_v123 {N : Nat} {sy : sx_Y} (h : ax_Sc N sy) : ax_Valid N sy ax_c123 := ax_vd (g := ax_g123) h ⟨⟨ax_v43 h, True.intro⟩, True.intro⟩ rfl rfl rfl ax_q123
theorem ax_v124 {N : Nat} {sy : sx_Y} (h : ax_Sc N sy) : ax_Valid N sy ax_c124 := ax_vd (g := ax_g124) h ⟨⟨ax_v43 h, True.intro⟩, True.intro⟩ rfl rfl rfl ax_q124
theorem ax_v125 {N : Nat} {sy : sx_Y} (h : ax_Sc N sy) : ax_Valid N sy ax_c125 := ax_vd (g := ax_g125) h ⟨⟨ax_v43 h, True.intro⟩, True.intro⟩ rfl rfl rfl ax_q125
theorem ax_v126 {N : Nat} {sy : sx_Y} (h : ax_Sc N sy) : ax_Valid N sy ax_c126 := ax_vd (g := ax_g126) h ⟨⟨ax_v43 h, True.intro⟩, ⟨⟨ax_v44 h, ⟨ax_v124 h, ⟨ax_v54 h, ⟨ax_v125 h, ⟨ax_v50 h, ⟨ax_v46 h, ⟨ax_v64 h, True.intro⟩⟩⟩⟩⟩⟩⟩, ⟨⟨ax_v63 h, True.intro⟩, True.intro⟩⟩⟩ rfl rfl rfl ax_q126
theorem ax_v127 {N : Nat} {sy : sx_Y} (h : ax_Sc N sy) : ax_Valid N sy ax_c127 := ax_vd (g := ax_g127) h ⟨⟨ax_v126 h, True.intro⟩, ⟨⟨ax_v43 h, True.intro⟩, True.intro⟩⟩ rfl rfl rfl ax_q127
theorem ax_v128 {N : Nat} {sy : sx_Y} (h : ax_Sc N sy) : ax_Valid N sy ax_c128 := ax_vd (g := ax_g128) h ⟨⟨ax_v122 h, ⟨ax_v123 h, True.intro⟩⟩, ⟨⟨ax_v127 h, True.intro⟩, ⟨⟨ax_v43 h, True.intro⟩, True.intro⟩⟩⟩ rfl rfl rfl ax_q128
theorem ax_v129 {N : Nat} {sy : sx_Y} (h : ax_Sc N sy) : ax_Valid N sy ax_c129 := ax_vd (g := ax_g129) h ⟨⟨ax_v43 h, True.intro⟩, ⟨⟨ax_v121 h, True.intro⟩, ⟨⟨ax_v128 h, True.intro⟩, True.intro⟩⟩⟩ rfl rfl rfl ax_q129
theorem ax_v130 {N : Nat} {sy : sx_Y} (h : ax_Sc N sy) : ax_Valid N sy ax_c130 := ax_vd (g := ax_g130) h ⟨⟨ax_v43 h, True.intro⟩, True.intro⟩ rfl rfl rfl ax_q130
theorem ax_v131 {N : Nat} {sy : sx_Y} (h : ax_Sc N sy) : ax_Valid N sy ax_c131 := ax_vd (g := ax_g131) h ⟨⟨ax_v129 h, True.intro⟩, ⟨⟨ax_v130 h, True.intro⟩, True.intro⟩⟩ rfl rfl rfl ax_q131
theorem ax_v132 {N : Nat} {sy : sx_Y} (h : ax_Sc N sy) : ax_Valid N sy ax_c132 := ax_vd (g := ax_g132) h ⟨⟨ax_v43 h, True.intro⟩, True.intro⟩ rfl rfl rfl ax_q132
theorem ax_v133 {N : Nat} {sy : sx_Y} (h : ax_Sc N sy) : ax_Valid N sy ax_c133 := ax_vd (g := ax_g133) h ⟨⟨ax_v131 h, True.intro⟩, ⟨⟨ax_v132 h, True.intro⟩, True.intro⟩⟩ rfl rfl rfl ax_q133
theorem ax_v134 {N : Nat} {sy : sx_Y} (h : ax_Sc N sy) : ax_Valid N sy ax_c134 := ax_vd (g := ax_g134) h ⟨⟨ax_v43 h, True.intro⟩, ⟨⟨ax_v121 h, True.intro⟩, ⟨⟨ax_v129 h, True.intro⟩, ⟨⟨ax_v133 h, True.intro⟩, ⟨⟨ax_v128 h, True.intro⟩, True.intro⟩⟩⟩⟩⟩ rfl rfl rfl ax_q134
theorem ax_v135 {N : Nat} {sy : sx_Y} (h : ax_Sc N sy) : ax_Valid N sy ax_c135 := ax_vd (g := ax_g135) h ⟨⟨ax_v134 h, True.intro⟩, ⟨⟨ax_v130 h, True.intro⟩, True.intro⟩⟩ rfl rfl rfl ax_q135
theorem ax_v136 {N : Nat} {sy : sx_Y} (h : ax_Sc N sy) : ax_Valid N sy ax_c136 := ax_vd (g := ax_g136) h ⟨⟨ax_v135 h, True.intro⟩, ⟨⟨ax_v132 h, True.intro⟩, True.intro⟩⟩ rfl rfl rfl ax_q136
theorem ax_v137 {N : Nat} {sy : sx_Y} (h : ax_Sc N sy) : ax_Valid N sy ax_c137 := ax_vd (g := ax_g137) h ⟨⟨ax_v43 h, True.intro⟩, ⟨⟨ax_v121 h, True.intro⟩, ⟨⟨ax_v134 h, True.intro⟩, ⟨⟨ax_v136 h, True.intro⟩, ⟨⟨ax_v128 h, True.intro⟩, True.intro⟩⟩⟩⟩⟩ rfl rfl rfl ax_q137
theorem ax_v138 {N : Nat} {sy : sx_Y} (h : ax_Sc N sy) : ax_Valid N sy ax_c138 := ax_vd (g := ax_g138) h ⟨⟨ax_v137 h, True.intro⟩, ⟨⟨ax_v130 h, True.intro⟩, True.intro⟩⟩ rfl rfl rfl ax_q138
theorem ax_v139 {N : Nat} {sy : sx_Y} (h : ax_Sc N sy) : ax_Valid N sy ax_c139 := ax_vd (g := ax_g139) h ⟨⟨ax_v138 h, True.intro⟩, ⟨⟨ax_v132 h, True.intro⟩, True.intro⟩⟩ rfl rfl rfl ax_q139
theorem ax_v140 {N : Nat} {sy : sx_Y} (h : ax_Sc N sy) : ax_Valid N sy ax_c140 := ax_vd (g := ax_g140) h ⟨⟨ax_v43 h, True.intro⟩, ⟨⟨ax_v121 h, True.intro⟩, ⟨⟨ax_v137 h, True.intro⟩, ⟨⟨ax_v139 h, True.intro⟩, ⟨⟨ax_v128 h, True.intro⟩, True.intro⟩⟩⟩⟩⟩ rfl rfl rfl ax_q140
theorem ax_v141 {N : Nat} {sy : sx_Y} (h : ax_Sc N sy) : ax_Valid N sy ax_c141 := ax_vd (g := ax_g141) h ⟨⟨ax_v140 h, True.intro⟩, ⟨⟨ax_v130 h, True.intro⟩, True.intro⟩⟩ rfl rfl rfl ax_q141
theorem ax_v142 {N : Nat} {sy : sx_Y} (h : ax_Sc N sy) : ax_Valid N sy ax_c142 := ax_vd (g := ax_g142) h ⟨⟨ax_v141 h, True.intro⟩, ⟨⟨ax_v132 h, True.intro⟩, True.intro⟩⟩ rfl rfl rfl ax_q142
theorem ax_v143 {N : Nat} {sy : sx_Y} (h : ax_Sc N sy) : ax_Valid N sy ax_c143 := ax_vd (g := ax_g143) h ⟨⟨ax_v43 h, True.intro⟩, ⟨⟨ax_v121 h, True.intro⟩, ⟨⟨ax_v140 h, True.intro⟩, ⟨⟨ax_v142 h, True.intro⟩, ⟨⟨ax_v128 h, True.intro⟩, True.intro⟩⟩⟩⟩⟩ rfl rfl rfl ax_q143
theorem ax_v144 {N : Nat} {sy : sx_Y} (h : ax_Sc N sy) : ax_Valid N sy ax_c144 := ax_vd (g := ax_g144) h ⟨⟨ax_v143 h, True.intro⟩, ⟨⟨ax_v130 h, True.intro⟩, True.intro⟩⟩ rfl rfl rfl ax_q144
theorem ax_v145 {N : Nat} {sy : sx_Y} (h : ax_Sc N sy) : ax_Valid N sy ax_c145 := ax_vd (g := ax_g145) h ⟨⟨ax_v144 h, True.intro⟩, ⟨⟨ax_v132 h, True.intro⟩, True.intro⟩⟩ rfl rfl rfl ax_q145
theorem ax_v146 {N : Nat} {sy : sx_Y} (h : ax_Sc N sy) : ax_Valid N sy ax_c146 := ax_vd (g := ax_g146) h ⟨⟨ax_v43 h, True.intro⟩, ⟨⟨ax_v121 h, True.intro⟩, ⟨⟨ax_v143 h, True.intro⟩, ⟨⟨ax_v145 h, True.intro⟩, ⟨⟨ax_v128 h, True.intro⟩, True.intro⟩⟩⟩⟩⟩ rfl rfl rfl ax_q146
theorem ax_v147 {N : Nat} {sy : sx_Y} (h : ax_Sc N sy) : ax_Valid N sy ax_c147 := ax_vd (g := ax_g147) h ⟨⟨ax_v146 h, True.intro⟩, ⟨⟨ax_v130 h, True.intro⟩, True.intro⟩⟩ rfl rfl rfl ax_q147
theorem ax_v148 {N : Nat} {sy : sx_Y} (h : ax_Sc N sy) : ax_Valid N sy ax_c148 := ax_vd (g := ax_g148) h ⟨⟨ax_v147 h, True.intro⟩, ⟨⟨ax_v132 h, True.intro⟩, True.intro⟩⟩ rfl rfl rfl ax_q148
theorem ax_v149 {N : Nat} {sy : sx_Y} (h : ax_Sc N sy) : ax_Valid N sy ax_c149 := ax_vd (g := ax_g149) h ⟨⟨ax_v43 h, True.intro⟩, ⟨⟨ax_v121 h, True.intro⟩, ⟨⟨ax_v146 h, True.intro⟩, ⟨⟨ax_v148 h, True.intro⟩, ⟨⟨ax_v128 h, True.intro⟩, True.intro⟩⟩⟩⟩⟩ rfl rfl rfl ax_q149
theorem ax_v150 {N : Nat} {sy : sx_Y} (h : ax_Sc N sy) : ax_Valid N sy ax_c150 := ax_vd (g := ax_g150) h ⟨⟨ax_v149 h, True.intro⟩, ⟨⟨ax_v130 h, True.intro⟩, True.intro⟩⟩ rfl rfl rfl ax_q150
theorem ax_v151 {N : Nat} {sy : sx_Y} (h : ax_Sc N sy) : ax_Valid N sy ax_c151 := ax_vd (g := ax_g151) h ⟨⟨ax_v150 h, True.intro⟩, ⟨⟨ax_v132 h, True.intro⟩, True.intro⟩⟩ rfl rfl rfl ax_q151
theorem ax_v152 {N : Nat} {sy : sx_Y} (h : ax_Sc N sy) : ax_Valid N sy ax_c152 := ax_vd (g := ax_g152) h ⟨⟨ax_v43 h, True.intro⟩, True.intro⟩ rfl rfl rfl ax_q152
theorem ax_v153 {N : Nat} {sy : sx_Y} (h : ax_Sc N sy) : ax_Valid N sy ax_c153 := ax_vd (g := ax_g153) h ⟨⟨ax_v43 h, True.intro⟩, True.intro⟩ rfl rfl rfl ax_q153
theorem ax_v154 {N : Nat} {sy : sx_Y} (h : ax_Sc N sy) : ax_Valid N sy ax_c154 := ax_vd (g := ax_g154) h ⟨⟨ax_v118 h, ⟨ax_v120 h, ⟨ax_v152 h, ⟨ax_v153 h, True.intro⟩⟩⟩⟩, ⟨⟨ax_v119 h, True.intro⟩, ⟨⟨ax_v151 h, True.intro⟩, True.intro⟩⟩⟩ rfl rfl rfl ax_q154
theorem ax_v155 {N : Nat} {sy : sx_Y} (h : ax_Sc N sy) : ax_Valid N sy ax_c155 := ax_vd (g := ax_g155) h True.intro rfl rfl rfl ax_q155
theorem ax_v156 {N : Nat} {sy : sx_Y} (h : ax_Sc N sy) : ax_Valid N sy ax_c156 := ax_vd (g := ax_g156) h ⟨⟨ax_v43 h, ⟨ax_v155 h, True.intro⟩⟩, ⟨⟨ax_v154 h, True.intro⟩, True.intro⟩⟩ rfl rfl rfl ax_q156
theorem ax_v157 {N : Nat} {sy : sx_Y} (h : ax_Sc N sy) : ax_Valid N sy ax_c157 := ax_vd (g := ax_g157) h ⟨⟨ax_v156 h, True.intro⟩, True.intro⟩ rfl rfl rfl ax_q157
theorem ax_v158 {N : Nat} {sy : sx_Y} (h : ax_Sc N sy) : ax_Valid N sy ax_c158 := ax_vd (g := ax_g158) h True.intro rfl rfl rfl ax_q158
theorem ax_v159 {N : Nat} {sy : sx_Y} (h : ax_Sc N sy) : ax_Valid N sy ax_c159 := ax_vd (g := ax_g159) h True.intro rfl rfl rfl ax_q159
theorem ax_v160 {N : Nat} {sy : sx_Y} (h : ax_Sc N sy) : ax_Valid N sy ax_c160 := ax_vd (g := ax_g160) h True.intro rfl rfl rfl ax_q160
theorem ax_v161 {N : Nat} {sy : sx_Y} (h : ax_Sc N sy) : ax_Valid N sy ax_c161 := ax_vd (g := ax_g161) h True.intro rfl rfl rfl ax_q161
theorem ax_v162 {N : Nat} {sy : sx_Y} (h : ax_Sc N sy) : ax_Valid N sy ax_c162 := ax_vd (g := ax_g162) h ⟨⟨ax_v161 h, True.intro⟩, True.intro⟩ rfl rfl rfl ax_q162
theorem ax_v163 {N : Nat} {sy : sx_Y} (h : ax_Sc N sy) : ax_Valid N sy ax_c163 := ax_vd (g := ax_g163) h ⟨⟨ax_v160 h, True.intro⟩, ⟨⟨ax_v162 h, True.intro⟩, True.intro⟩⟩ rfl rfl rfl ax_q163
theorem ax_v164 {N : Nat} {sy : sx_Y} (h : ax_Sc N sy) : ax_Valid N sy ax_c164 := ax_vd (g := ax_g164) h True.intro rfl rfl rfl ax_q164
theorem ax_v165 {N : Nat} {sy : sx_Y} (h : ax_Sc N sy) : ax_Valid N sy ax_c165 := ax_vd (g := ax_g165) h ⟨⟨ax_v164 h, True.intro⟩, True.intro⟩ rfl rfl rfl ax_q165
theorem ax_v166 {N : Nat} {sy : sx_Y} (h : ax_Sc N sy) : ax_Valid N sy ax_c166 := ax_vd (g := ax_g166) h True.intro rfl rfl rfl ax_q166
theorem ax_v167 {N : Nat} {sy : sx_Y} (h : ax_Sc N sy) : ax_Valid N sy ax_c167 := ax_vd (g := ax_g167) h ⟨⟨ax_v166 h, True.intro⟩, True.intro⟩ rfl rfl rfl ax_q167
theorem ax_v168 {N : Nat} {sy : sx_Y} (h : ax_Sc N sy) : ax_Valid N sy ax_c168 := ax_vd (g := ax_g168) h ⟨⟨ax_v163 h, True.intro⟩, ⟨⟨ax_v165 h, True.intro⟩, ⟨⟨ax_v167 h, True.intro⟩, True.intro⟩⟩⟩ rfl rfl rfl ax_q168
theorem ax_v169 {N : Nat} {sy : sx_Y} (h : ax_Sc N sy) : ax_Valid N sy ax_c169 := ax_vd (g := ax_g169) h True.intro rfl rfl rfl ax_q169
theorem ax_v170 {N : Nat} {sy : sx_Y} (h : ax_Sc N sy) : ax_Valid N sy ax_c170 := ax_vd (g := ax_g170) h True.intro rfl rfl rfl ax_q170
theorem ax_v171 {N : Nat} {sy : sx_Y} (h : ax_Sc N sy) : ax_Valid N sy ax_c171 := ax_vd (g := ax_g171) h True.intro rfl rfl rfl ax_q171
theorem ax_v172 {N : Nat} {sy : sx_Y} (h : ax_Sc N sy) : ax_Valid N sy ax_c172 := ax_vd (g := ax_g172) h ⟨⟨ax_v171 h, True.intro⟩, True.intro⟩ rfl rfl rfl ax_q172
theorem ax_v173 {N : Nat} {sy : sx_Y} (h : ax_Sc N sy) : ax_Valid N sy ax_c173 := ax_vd (g := ax_g173) h ⟨⟨ax_v170 h, True.intro⟩, ⟨⟨ax_v172 h, True.intro⟩, True.intro⟩⟩ rfl rfl rfl ax_q173
theorem ax_v174 {N : Nat} {sy : sx_Y} (h : ax_Sc N sy) : ax_Valid N sy ax_c174 := ax_vd (g := ax_g174) h True.intro rfl rfl rfl ax_q174
theorem ax_v175 {N : Nat} {sy : sx_Y} (h : ax_Sc N sy) : ax_Valid N sy ax_c175 := ax_vd (g := ax_g175) h True.intro rfl rfl rfl ax_q175
theorem ax_v176 {N : Nat} {sy : sx_Y} (h : ax_Sc N sy) : ax_Valid N sy ax_c176 := ax_vd (g := ax_g176) h True.intro rfl rfl rfl ax_q176
theorem ax_v177 {N : Nat} {sy : sx_Y} (h : ax_Sc N sy) : ax_Valid N sy ax_c177 := ax_vd (g := ax_g177) h True.intro rfl rfl rfl ax_q177
theorem ax_v178 {N : Nat} {sy : sx_Y} (h : ax_Sc N sy) : ax_Valid N sy ax_c178 := ax_vd (g := ax_g178) h True.intro rfl rfl rfl ax_q178
theorem ax_v179 {N : Nat} {sy : sx_Y} (h : ax_Sc N sy) : ax_Valid N sy ax_c179 := ax_vd (g := ax_g179) h ⟨⟨ax_v174 h, ⟨ax_v175 h, ⟨ax_v176 h, ⟨ax_v177 h, ⟨ax_v178 h, True.intro⟩⟩⟩⟩⟩, ⟨⟨ax_v156 h, True.intro⟩, True.intro⟩⟩ rfl rfl rfl ax_q179
theorem ax_v180 {N : Nat} {sy : sx_Y} (h : ax_Sc N sy) : ax_Valid N sy ax_c180 := ax_vd (g := ax_g180) h ⟨⟨ax_v173 h, True.intro⟩, ⟨⟨ax_v170 h, ⟨ax_v174 h, True.intro⟩⟩, ⟨⟨ax_v179 h, True.intro⟩, True.intro⟩⟩⟩ rfl rfl rfl ax_q180
theorem ax_v181 {N : Nat} {sy : sx_Y} (h : ax_Sc N sy) : ax_Valid N sy ax_c181 := ax_vd (g := ax_g181) h ⟨⟨ax_v172 h, True.intro⟩, True.intro⟩ rfl rfl rfl ax_q181
theorem ax_v182 {N : Nat} {sy : sx_Y} (h : ax_Sc N sy) : ax_Valid N sy ax_c182 := ax_vd (g := ax_g182) h ⟨⟨ax_v172 h, True.intro⟩, ⟨⟨ax_v175 h, True.intro⟩, True.intro⟩⟩ rfl rfl rfl ax_q182
theorem ax_v183 {N : Nat} {sy : sx_Y} (h : ax_Sc N sy) : ax_Valid N sy ax_c183 := ax_vd (g := ax_g183) h ⟨⟨ax_v181 h, True.intro⟩, ⟨⟨ax_v172 h, True.intro⟩, ⟨⟨ax_v175 h, True.intro⟩, ⟨⟨ax_v182 h, True.intro⟩, True.intro⟩⟩⟩⟩ rfl rfl rfl ax_q183
theorem ax_v184 {N : Nat} {sy : sx_Y} (h : ax_Sc N sy) : ax_Valid N sy ax_c184 := ax_vd (g := ax_g184) h ⟨⟨ax_v170 h, True.intro⟩, ⟨⟨ax_v172 h, True.intro⟩, True.intro⟩⟩ rfl rfl rfl ax_q184
theorem ax_v185 {N : Nat} {sy : sx_Y} (h : ax_Sc N sy) : ax_Valid N sy ax_c185 := ax_vd (g := ax_g185) h True.intro rfl rfl rfl ax_q185
theorem ax_v186 {N : Nat} {sy : sx_Y} (h : ax_Sc N sy) : ax_Valid N sy ax_c186 := ax_vd (g := ax_g186) h ⟨⟨ax_v172 h, True.intro⟩, ⟨⟨ax_v184 h, True.intro⟩, ⟨⟨ax_v170 h, True.intro⟩, ⟨⟨ax_v185 h, True.intro⟩, True.intro⟩⟩⟩⟩ rfl rfl rfl ax_q186
theorem ax_v187 {N : Nat} {sy : sx_Y} (h : ax_Sc N sy) : ax_Valid N sy ax_c187 := ax_vd (g := ax_g187) h ⟨⟨ax_v180 h, True.intro⟩, ⟨⟨ax_v183 h, True.intro⟩, ⟨⟨ax_v186 h, True.intro⟩, ⟨⟨ax_v169 h, True.intro⟩, True.intro⟩⟩⟩⟩ rfl rfl rfl ax_q187
theorem ax_v188 {N : Nat} {sy : sx_Y} (h : ax_Sc N sy) : ax_Valid N sy ax_c188 := ax_vd (g := ax_g188) h True.intro rfl rfl rfl ax_q188
theorem ax_v189 {N : Nat} {sy : sx_Y} (h : ax_Sc N sy) : ax_Valid N sy ax_c189 := ax_vd (g := ax_g189) h True.intro rfl rfl rfl ax_q189
theorem ax_v190 {N : Nat} {sy : sx_Y} (h : ax_Sc N sy) : ax_Valid N sy ax_c190 := ax_vd (g := ax_g190) h ⟨⟨ax_v161 h, True.intro⟩, True.intro⟩ rfl rfl rfl ax_q190
theorem ax_v191 {N : Nat} {sy : sx_Y} (h : ax_Sc N sy) : ax_Valid N sy ax_c191 := ax_vd (g := ax_g191) h ⟨⟨ax_v190 h, True.intro⟩, True.intro⟩ rfl rfl rfl ax_q191
theorem ax_v192 {N : Nat} {sy : sx_Y} (h : ax_Sc N sy) : ax_Valid N sy ax_c192 := ax_vd (g := ax_g192) h ⟨⟨ax_v191 h, True.intro⟩, True.intro⟩ rfl rfl rfl ax_q192
theorem ax_v193 {N : Nat} {sy : sx_Y} (h : ax_Sc N sy) : ax_Valid N sy ax_c193 := ax_vd (g := ax_g193) h ⟨⟨ax_v179 h, True.intro⟩, True.intro⟩ rfl rfl rfl ax_q193
theorem ax_v194 {N : Nat} {sy : sx_Y} (h : ax_Sc N sy) : ax_Valid N sy ax_c194 := ax_vd (g := ax_g194) h ⟨⟨ax_v193 h, True.intro⟩, True.intro⟩ rfl rfl rfl ax_q194
theorem ax_v195 {N : Nat} {sy : sx_Y} (h : ax_Sc N sy) : ax_Valid N sy ax_c195 := ax_vd (g := ax_g195) h True.intro rfl rfl rfl ax_q195
theorem ax_v196 {N : Nat} {sy : sx_Y} (h : ax_Sc N sy) : ax_Valid N sy ax_c196 := ax_vd (g := ax_g196) h True.intro rfl rfl rfl ax_q196
theorem ax_v197 {N : Nat} {sy : sx_Y} (h : ax_Sc N sy) : ax_Valid N sy ax_c197 := ax_vd (g := ax_g197) h True.intro rfl rfl rfl ax_q197
theorem ax_v198 {N : Nat} {sy : sx_Y} (h : ax_Sc N sy) : ax_Valid N sy ax_c198 := ax_vd (g := ax_g198) h ⟨⟨ax_v197 h, True.intro⟩, True.intro⟩ rfl rfl rfl ax_q198
theorem ax_v199 {N : Nat} {sy : sx_Y} (h : ax_Sc N sy) : ax_Valid N sy ax_c199 := ax_vd (g := ax_g199) h True.intro rfl rfl rfl ax_q199
theorem ax_v200 {N : Nat} {sy : sx_Y} (h : ax_Sc N sy) : ax_Valid N sy ax_c200 := ax_vd (g := ax_g200) h True.intro rfl rfl rfl ax_q200
theorem ax_v201 {N : Nat} {sy : sx_Y} (h : ax_Sc N sy) : ax_Valid N sy ax_c201 := ax_vd (g := ax_g201) h ⟨⟨ax_v199 h, True.intro⟩, ⟨⟨ax_v184 h, True.intro⟩, ⟨⟨ax_v176 h, True.intro⟩, ⟨⟨ax_v200 h, True.intro⟩, True.intro⟩⟩⟩⟩ rfl rfl rfl ax_q201
theorem ax_v202 {N : Nat} {sy : sx_Y} (h : ax_Sc N sy) : ax_Valid N sy ax_c202 := ax_vd (g := ax_g202) h ⟨⟨ax_v197 h, True.intro⟩, True.intro⟩ rfl rfl rfl ax_q202
theorem ax_v203 {N : Nat} {sy : sx_Y} (h : ax_Sc N sy) : ax_Valid N sy ax_c203 := ax_vd (g := ax_g203) h ⟨⟨ax_v199 h, True.intro⟩, ⟨⟨ax_v173 h, True.intro⟩, ⟨⟨ax_v170 h, ⟨ax_v176 h, True.intro⟩⟩, ⟨⟨ax_v200 h, True.intro⟩, True.intro⟩⟩⟩⟩ rfl rfl rfl ax_q203
theorem ax_v204 {N : Nat} {sy : sx_Y} (h : ax_Sc N sy) : ax_Valid N sy ax_c204 := ax_vd (g := ax_g204) h ⟨⟨ax_v191 h, True.intro⟩, True.intro⟩ rfl rfl rfl ax_q204
theorem ax_v205 {N : Nat} {sy : sx_Y} (h : ax_Sc N sy) : ax_Valid N sy ax_c205 := ax_vd (g := ax_g205) h True.intro rfl rfl rfl ax_q205
theorem ax_v206 {N : Nat} {sy : sx_Y} (h : ax_Sc N sy) : ax_Valid N sy ax_c206 := ax_vd (g := ax_g206) h True.intro rfl rfl rfl ax_q206
theorem ax_v207 {N : Nat} {sy : sx_Y} (h : ax_Sc N sy) : ax_Valid N sy ax_c207 := ax_vd (g := ax_g207) h True.intro rfl rfl rfl ax_q207
theorem ax_v208 {N : Nat} {sy : sx_Y} (h : ax_Sc N sy) : ax_Valid N sy ax_c208 := ax_vd (g := ax_g208) h True.intro rfl rfl rfl ax_q208
theorem ax_v209 {N : Nat} {sy : sx_Y} (h : ax_Sc N sy) : ax_Valid N sy ax_c209 := ax_vd (g := ax_g209) h True.intro rfl rfl rfl ax_q209
theorem ax_v210 {N : Nat} {sy : sx_Y} (h : ax_Sc N sy) : ax_Valid N sy ax_c210 := ax_vd (g := ax_g210) h True.intro rfl rfl rfl ax_q210
theorem ax_v211 {N : Nat} {sy : sx_Y} (h : ax_Sc N sy) : ax_Valid N sy ax_c211 := ax_vd (g := ax_g211) h True.intro rfl rfl rfl ax_q211
theorem ax_v212 {N : Nat} {sy : sx_Y} (h : ax_Sc N sy) : ax_Valid N sy ax_c212 := ax_vd (g := ax_g212) h True.intro rfl rfl rfl ax_q212
theorem ax_v213 {N : Nat} {sy : sx_Y} (h : ax_Sc N sy) : ax_Valid N sy ax_c213 := ax_vd (g := ax_g213) h True.intro rfl rfl rfl ax_q213
theorem ax_v214 {N : Nat} {sy : sx_Y} (h : ax_Sc N sy) : ax_Valid N sy ax_c214 := ax_vd (g := ax_g214) h True.intro rfl rfl rfl ax_q214
theorem ax_v215 {N : Nat} {sy : sx_Y} (h : ax_Sc N sy) : ax_Valid N sy ax_c215 := ax_vd (g := ax_g215) h True.intro rfl rfl rfl ax_q215
theorem ax_v216 {N : Nat} {sy : sx_Y} (h : ax_Sc N sy) : ax_Valid N sy ax_c216 := ax_vd (g := ax_g216) h True.intro rfl rfl rfl ax_q216
theorem ax_v217 {N : Nat} {sy : sx_Y} (h : ax_Sc N sy) : ax_Valid N sy ax_c217 := ax_vd (g := ax_g217) h True.intro rfl rfl rfl ax_q217
theorem ax_v218 {N : Nat} {sy : sx_Y} (h : ax_Sc N sy) : ax_Valid N sy ax_c218 := ax_vd (g := ax_g218) h True.intro rfl rfl rfl ax_q218
theorem ax_v219 {N : Nat} {sy : sx_Y} (h : ax_Sc N sy) : ax_Valid N sy ax_c219 := ax_vd (g := ax_g219) h True.intro rfl rfl rfl ax_q219
theorem ax_v220 {N : Nat} {sy : sx_Y} (h : ax_Sc N sy) : ax_Valid N sy ax_c220 := ax_vd (g := ax_g220) h True.intro rfl rfl rfl ax_q220
theorem ax_v221 {N : Nat} {sy : sx_Y} (h : ax_Sc N sy) : ax_Valid N sy ax_c221 := ax_vd (g := ax_g221) h True.intro rfl rfl rfl ax_q221
theorem ax_v222 {N : Nat} {sy : sx_Y} (h : ax_Sc N sy) : ax_Valid N sy ax_c222 := ax_vd (g := ax_g222) h True.intro rfl rfl rfl ax_q222
theorem ax_v223 {N : Nat} {sy : sx_Y} (h : ax_Sc N sy) : ax_Valid N sy ax_c223 := ax_vd (g := ax_g223) h True.intro rfl rfl rfl ax_q223
theorem ax_v224 {N : Nat} {sy : sx_Y} (h : ax_Sc N sy) : ax_Valid N sy ax_c224 := ax_vd (g := ax_g224) h True.intro rfl rfl rfl ax_q224
theorem ax_v225 {N : Nat} {sy : sx_Y} (h : ax_Sc N sy) : ax_Valid N sy ax_c225 := ax_vd (g := ax_g225) h True.intro rfl rfl rfl ax_q225
theorem ax_v226 {N : Nat} {sy : sx_Y} (h : ax_Sc N sy) : ax_Valid N sy ax_c226 := ax_vd (g := ax_g226) h True.intro rfl rfl rfl ax_q226
theorem ax_v227 {N : Nat} {sy : sx_Y} (h : ax_Sc N sy) : ax_Valid N sy ax_c227 := ax_vd (g := ax_g227) h True.intro rfl rfl rfl ax_q227
theorem ax_v228 {N : Nat} {sy : sx_Y} (h : ax_Sc N sy) : ax_Valid N sy ax_c228 := ax_vd (g := ax_g228) h True.intro rfl rfl rfl ax_q228
theorem ax_v229 {N : Nat} {sy : sx_Y} (h : ax_Sc N sy) : ax_Valid N sy ax_c229 := ax_vd (g := ax_g229) h True.intro rfl rfl rfl ax_q229
theorem ax_v230 {N : Nat} {sy : sx_Y} (h : ax_Sc N sy) : ax_Valid N sy ax_c230 := ax_vd (g := ax_g230) h True.intro rfl rfl rfl ax_q230
theorem ax_v231 {N : Nat} {sy : sx_Y} (h : ax_Sc N sy) : ax_Valid N sy ax_c231 := ax_vd (g := ax_g231) h True.intro rfl rfl rfl ax_q231
theorem ax_v232 {N : Nat} {sy : sx_Y} (h : ax_Sc N sy) : ax_Valid N sy ax_c232 := ax_vd (g := ax_g232) h True.intro rfl rfl rfl ax_q232
theorem ax_v233 {N : Nat} {sy : sx_Y} (h : ax_Sc N sy) : ax_Valid N sy ax_c233 := ax_vd (g := ax_g233) h True.intro rfl rfl rfl ax_q233
theorem ax_v234 {N : Nat} {sy : sx_Y} (h : ax_Sc N sy) : ax_Valid N sy ax_c234 := ax_vd (g := ax_g234) h True.intro rfl rfl rfl ax_q234
theorem ax_v235 {N : Nat} {sy : sx_Y} (h : ax_Sc N sy) : ax_Valid N sy ax_c235 := ax_vd (g := ax_g235) h True.intro rfl rfl rfl ax_q235
theorem ax_v236 {N : Nat} {sy : sx_Y} (h : ax_Sc N sy) : ax_Valid N sy ax_c236 := ax_vd (g := ax_g236) h True.intro rfl rfl rfl ax_q236
theorem ax_v237 {N : Nat} {sy : sx_Y} (h : ax_Sc N sy) : ax_Valid N sy ax_c237 := ax_vd (g := ax_g237) h True.intro rfl rfl rfl ax_q237
theorem ax_v238 {N : Nat} {sy : sx_Y} (h : ax_Sc N sy) : ax_Valid N sy ax_c238 := ax_vd (g := ax_g238) h True.intro rfl rfl rfl ax_q238
theorem ax_v239 {N : Nat} {sy : sx_Y} (h : ax_Sc N sy) : ax_Valid N sy ax_c239 := ax_vd (g := ax_g239) h True.intro rfl rfl rfl ax_q239
theorem ax_v240 {N : Nat} {sy : sx_Y} (h : ax_Sc N sy) : ax_Valid N sy ax_c240 := ax_vd (g := ax_g240) h True.intro rfl rfl rfl ax_q240
theorem ax_v241 {N : Nat} {sy : sx_Y} (h : ax_Sc N sy) : ax_Valid N sy ax_c241 := ax_vd (g := ax_g241) h True.intro rfl rfl rfl ax_q241
theorem ax_v242 {N : Nat} {sy : sx_Y} (h : ax_Sc N sy) : ax_Valid N sy ax_c242 := ax_vd (g := ax_g242) h True.intro rfl rfl rfl ax_q242
theorem ax_v243 {N : Nat} {sy : sx_Y} (h : ax_Sc N sy) : ax_Valid N sy ax_c243 := ax_vd (g := ax_g243) h True.intro rfl rfl rfl ax_q243
theorem ax_v244 {N : Nat} {sy : sx_Y} (h : ax_Sc N sy) : ax_Valid N sy ax_c244 := ax_vd (g := ax_g244) h True.intro rfl rfl rfl ax_q244
theorem ax_v245 {N : Nat} {sy : sx_Y} (h : ax_Sc N sy) : ax_Valid N sy ax_c245 := ax_vd (g := ax_g245) h True.intro rfl rfl rfl ax_q245
theorem ax_v246 {N : Nat} {sy : sx_Y} (h : ax_Sc N sy) : ax_Valid N sy ax_c246 := ax_vd (g := ax_g246) h True.intro rfl rfl rfl ax_q246
theorem ax_v247 {N : Nat} {sy : sx_Y} (h : ax_Sc N sy) : ax_Valid N sy ax_c247 := ax_vd (g := ax_g247) h True.intro rfl rfl rfl ax_q247
theorem ax_v248 {N : Nat} {sy : sx_Y} (h : ax_Sc N sy) : ax_Valid N sy ax_c248 := ax_vd (g := ax_g248) h True.intro rfl rfl rfl ax_q248
theorem ax_v249 {N : Nat} {sy : sx_Y} (h : ax_Sc N sy) : ax_Valid N sy ax_c249 := ax_vd (g := ax_g249) h True.intro rfl rfl rfl ax_q249
theorem ax_v250 {N : Nat} {sy : sx_Y} (h : ax_Sc N sy) : ax_Valid N sy ax_c250 := ax_vd (g := ax_g250) h True.intro rfl rfl rfl ax_q250
theorem ax_v251 {N : Nat} {sy : sx_Y} (h : ax_Sc N sy) : ax_Valid N sy ax_c251 := ax_vd (g := ax_g251) h True.intro rfl rfl rfl ax_q251
theorem ax_v252 {N : Nat} {sy : sx_Y} (h : ax_Sc N sy) : ax_Valid N sy ax_c252 := ax_vd (g := ax_g252) h True.intro rfl rfl rfl ax_q252
theorem ax_v253 {N : Nat} {sy : sx_Y} (h : ax_Sc N sy) : ax_Valid N sy ax_c253 := ax_vd (g := ax_g253) h True.intro rfl rfl rfl ax_q253
theorem ax_v254 {N : Nat} {sy : sx_Y} (h : ax_Sc N sy) : ax_Valid N sy ax_c254 := ax_vd (g := ax_g254) h True.intro rfl rfl rfl ax_q254
theorem ax_v255 {N : Nat} {sy : sx_Y} (h : ax_Sc N sy) : ax_Valid N sy ax_c255 := ax_vd (g := ax_g255) h True.intro rfl rfl rfl ax_q255
theorem ax_v256 {N : Nat} {sy : sx_Y} (h : ax_Sc N sy) : ax_Valid N sy ax_c256 := ax_vd (g := ax_g256) h True.intro rfl rfl rfl ax_q256
theorem ax_v257 {N : Nat} {sy : sx_Y} (h : ax_Sc N sy) : ax_Valid N sy ax_c257 := ax_vd (g := ax_g257) h True.intro rfl rfl rfl ax_q257
theorem ax_v258 {N : Nat} {sy : sx_Y} (h : ax_Sc N sy) : ax_Valid N sy ax_c258 := ax_vd (g := ax_g258) h True.intro rfl rfl rfl ax_q258
theorem ax_v259 {N : Nat} {sy : sx_Y} (h : ax_Sc N sy) : ax_Valid N sy ax_c259 := ax_vd (g := ax_g259) h True.intro rfl rfl rfl ax_q259
theorem ax_v260 {N : Nat} {sy : sx_Y} (h : ax_Sc N sy) : ax_Valid N sy ax_c260 := ax_vd (g := ax_g260) h True.intro rfl rfl rfl ax_q260
theorem ax_v261 {N : Nat} {sy : sx_Y} (h : ax_Sc N sy) : ax_Valid N sy ax_c261 := ax_vd (g := ax_g261) h True.intro rfl rfl rfl ax_q261
theorem ax_v262 {N : Nat} {sy : sx_Y} (h : ax_Sc N sy) : ax_Valid N sy ax_c262 := ax_vd (g := ax_g262) h True.intro rfl rfl rfl ax_q262
theorem ax_v263 {N : Nat} {sy : sx_Y} (h : ax_Sc N sy) : ax_Valid N sy ax_c263 := ax_vd (g := ax_g263) h True.intro rfl rfl rfl ax_q263
theorem ax_v264 {N : Nat} {sy : sx_Y} (h : ax_Sc N sy) : ax_Valid N sy ax_c264 := ax_vd (g := ax_g264) h True.intro rfl rfl rfl ax_q264
theorem ax_v265 {N : Nat} {sy : sx_Y} (h : ax_Sc N sy) : ax_Valid N sy ax_c265 := ax_vd (g := ax_g265) h True.intro rfl rfl rfl ax_q265
theorem ax_v266 {N : Nat} {sy : sx_Y} (h : ax_Sc N sy) : ax_Valid N sy ax_c266 := ax_vd (g := ax_g266) h True.intro rfl rfl rfl ax_q266
theorem ax_v267 {N : Nat} {sy : sx_Y} (h : ax_Sc N sy) : ax_Valid N sy ax_c267 := ax_vd (g := ax_g267) h True.intro rfl rfl rfl ax_q267
theorem ax_v268 {N : Nat} {sy : sx_Y} (h : ax_Sc N sy) : ax_Valid N sy ax_c268 := ax_vd (g := ax_g268) h True.intro rfl rfl rfl ax_q268
theorem ax_v269 {N : Nat} {sy : sx_Y} (h : ax_Sc N sy) : ax_Valid N sy ax_c269 := ax_vd (g := ax_g269) h True.intro rfl rfl rfl ax_q269
theorem ax_v270 {N : Nat} {sy : sx_Y} (h : ax_Sc N sy) : ax_Valid N sy ax_c270 := ax_vd (g := ax_g270) h True.intro rfl rfl rfl ax_q270
theorem ax_v271 {N : Nat} {sy : sx_Y} (h : ax_Sc N sy) : ax_Valid N sy ax_c271 := ax_vd (g := ax_g271) h True.intro rfl rfl rfl ax_q271
theorem ax_v272 {N : Nat} {sy : sx_Y} (h : ax_Sc N sy) : ax_Valid N sy ax_c272 := ax_vd (g := ax_g272) h True.intro rfl rfl rfl ax_q272
theorem ax_v273 {N : Nat} {sy : sx_Y} (h : ax_Sc N sy) : ax_Valid N sy ax_c273 := ax_vd (g := ax_g273) h True.intro rfl rfl rfl ax_q273
theorem ax_v274 {N : Nat} {sy : sx_Y} (h : ax_Sc N sy) : ax_Valid N sy ax_c274 := ax_vd (g := ax_g274) h True.intro rfl rfl rfl ax_q274
theorem ax_v275 {N : Nat} {sy : sx_Y} (h : ax_Sc N sy) : ax_Valid N sy ax_c275 := ax_vd (g := ax_g275) h True.intro rfl rfl rfl ax_q275
theorem ax_v276 {N : Nat} {sy : sx_Y} (h : ax_Sc N sy) : ax_Valid N sy ax_c276 := ax_vd (g := ax_g276) h True.intro rfl rfl rfl ax_q276
theorem ax_v277 {N : Nat} {sy : sx_Y} (h : ax_Sc N sy) : ax_Valid N sy ax_c277 := ax_vd (g := ax_g277) h True.intro rfl rfl rfl ax_q277
theorem ax_v278 {N : Nat} {sy : sx_Y} (h : ax_Sc N sy) : ax_Valid N sy ax_c278 := ax_vd (g := ax_g278) h True.intro rfl rfl rfl ax_q278
theorem ax_v279 {N : Nat} {sy : sx_Y} (h : ax_Sc N sy) : ax_Valid N sy ax_c279 := ax_vd (g := ax_g279) h True.intro rfl rfl rfl ax_q279
theorem ax_v280 {N : Nat} {sy : sx_Y} (h : ax_Sc N sy) : ax_Valid N sy ax_c280 := ax_vd (g := ax_g280) h True.intro rfl rfl rfl ax_q280
theorem ax_v281 {N : Nat} {sy : sx_Y} (h : ax_Sc N sy) : ax_Valid N sy ax_c281 := ax_vd (g := ax_g281) h True.intro rfl rfl rfl ax_q281
theorem ax_v282 {N : Nat} {sy : sx_Y} (h : ax_Sc N sy) : ax_Valid N sy ax_c282 := ax_vd (g := ax_g282) h True.intro rfl rfl rfl ax_q282
theorem ax_v283 {N : Nat} {sy : sx_Y} (h : ax_Sc N sy) : ax_Valid N sy ax_c283 := ax_vd (g := ax_g283) h True.intro rfl rfl rfl ax_q283
theorem ax_v284 {N : Nat} {sy : sx_Y} (h : ax_Sc N sy) : ax_Valid N sy ax_c284 := ax_vd (g := ax_g284) h True.intro rfl rfl rfl ax_q284
theorem ax_v285 {N : Nat} {sy : sx_Y} (h : ax_Sc N sy) : ax_Valid N sy ax_c285 := ax_vd (g := ax_g285) h True.intro rfl rfl rfl ax_q285
theorem ax_v286 {N : Nat} {sy : sx_Y} (h : ax_Sc N sy) : ax_Valid N sy ax_c286 := ax_vd (g := ax_g286) h True.intro rfl rfl rfl ax_q286
theorem ax_v287 {N : Nat} {sy : sx_Y} (h : ax_Sc N sy) : ax_Valid N sy ax_c287 := ax_vd (g := ax_g287) h True.intro rfl rfl rfl ax_q287
theorem ax_v288 {N : Nat} {sy : sx_Y} (h : ax_Sc N sy) : ax_Valid N sy ax_c288 := ax_vd (g := ax_g288) h True.intro rfl rfl rfl ax_q288
theorem ax_v289 {N : Nat} {sy : sx_Y} (h : ax_Sc N sy) : ax_Valid N sy ax_c289 := ax_vd (g := ax_g289) h True.intro rfl rfl rfl ax_q289
theorem ax_v290 {N : Nat} {sy : sx_Y} (h : ax_Sc N sy) : ax_Valid N sy ax_c290 := ax_vd (g := ax_g290) h True.intro rfl rfl rfl ax_q290
theorem ax_v291 {N : Nat} {sy : sx_Y} (h : ax_Sc N sy) : ax_Valid N sy ax_c291 := ax_vd (g := ax_g291) h True.intro rfl rfl rfl ax_q291
theorem ax_v292 {N : Nat} {sy : sx_Y} (h : ax_Sc N sy) : ax_Valid N sy ax_c292 := ax_vd (g := ax_g292) h True.intro rfl rfl rfl ax_q292
theorem ax_v293 {N : Nat} {sy : sx_Y} (h : ax_Sc N sy) : ax_Valid N sy ax_c293 := ax_vd (g := ax_g293) h True.intro rfl rfl rfl ax_q293
theorem ax_v294 {N : Nat} {sy : sx_Y} (h : ax_Sc N sy) : ax_Valid N sy ax_c294 := ax_vd (g := ax_g294) h True.intro rfl rfl rfl ax_q294
theorem ax_v295 {N : Nat} {sy : sx_Y} (h : ax_Sc N sy) : ax_Valid N sy ax_c295 := ax_vd (g := ax_g295) h True.intro rfl rfl rfl ax_q295
theorem ax_v296 {N : Nat} {sy : sx_Y} (h : ax_Sc N sy) : ax_Valid N sy ax_c296 := ax_vd (g := ax_g296) h True.intro rfl rfl rfl ax_q296
theorem ax_v297 {N : Nat} {sy : sx_Y} (h : ax_Sc N sy) : ax_Valid N sy ax_c297 := ax_vd (g := ax_g297) h True.intro rfl rfl rfl ax_q297
theorem ax_v298 {N : Nat} {sy : sx_Y} (h : ax_Sc N sy) : ax_Valid N sy ax_c298 := ax_vd (g := ax_g298) h True.intro rfl rfl rfl ax_q298
theorem ax_v299 {N : Nat} {sy : sx_Y} (h : ax_Sc N sy) : ax_Valid N sy ax_c299 := ax_vd (g := ax_g299) h True.intro rfl rfl rfl ax_q299
theorem ax_v300 {N : Nat} {sy : sx_Y} (h : ax_Sc N sy) : ax_Valid N sy ax_c300 := ax_vd (g := ax_g300) h True.intro rfl rfl rfl ax_q300
theorem ax_v301 {N : Nat} {sy : sx_Y} (h : ax_Sc N sy) : ax_Valid N sy ax_c301 := ax_vd (g := ax_g301) h True.intro rfl rfl rfl ax_q301
theorem ax_v302 {N : Nat} {sy : sx_Y} (h : ax_Sc N sy) : ax_Valid N sy ax_c302 := ax_vd (g := ax_g302) h True.intro rfl rfl rfl ax_q302
theorem ax_v303 {N : Nat} {sy : sx_Y} (h : ax_Sc N sy) : ax_Valid N sy ax_c303 := ax_vd (g := ax_g303) h True.intro rfl rfl rfl ax_q303
theorem ax_v304 {N : Nat} {sy : sx_Y} (h : ax_Sc N sy) : ax_Valid N sy ax_c304 := ax_vd (g := ax_g304) h True.intro rfl rfl rfl ax_q304
theorem ax_v305 {N : Nat} {sy : sx_Y} (h : ax_Sc N sy) : ax_Valid N sy ax_c305 := ax_vd (g := ax_g305) h True.intro rfl rfl rfl ax_q305
theorem ax_v306 {N : Nat} {sy : sx_Y} (h : ax_Sc N sy) : ax_Valid N sy ax_c306 := ax_vd (g := ax_g306) h True.intro rfl rfl rfl ax_q306
theorem ax_v307 {N : Nat} {sy : sx_Y} (h : ax_Sc N sy) : ax_Valid N sy ax_c307 := ax_vd (g := ax_g307) h True.intro rfl rfl rfl ax_q307
theorem ax_v308 {N : Nat} {sy : sx_Y} (h : ax_Sc N sy) : ax_Valid N sy ax_c308 := ax_vd (g := ax_g308) h True.intro rfl rfl rfl ax_q308
theorem ax_v309 {N : Nat} {sy : sx_Y} (h : ax_Sc N sy) : ax_Valid N sy ax_c309 := ax_vd (g := ax_g309) h True.intro rfl rfl rfl ax_q309
theorem ax_v310 {N : Nat} {sy : sx_Y} (h : ax_Sc N sy) : ax_Valid N sy ax_c310 := ax_vd (g := ax_g310) h True.intro rfl rfl rfl ax_q310
theorem ax_v311 {N : Nat} {sy : sx_Y} (h : ax_Sc N sy) : ax_Valid N sy ax_c311 := ax_vd (g := ax_g311) h True.intro rfl rfl rfl ax_q311
theorem ax_v312 {N : Nat} {sy : sx_Y} (h : ax_Sc N sy) : ax_Valid N sy ax_c312 := ax_vd (g := ax_g312) h True.intro rfl rfl rfl ax_q312
theorem ax_v313 {N : Nat} {sy : sx_Y} (h : ax_Sc N sy) : ax_Valid N sy ax_c313 := ax_vd (g := ax_g313) h True.intro rfl rfl rfl ax_q313
theorem ax_v314 {N : Nat} {sy : sx_Y} (h : ax_Sc N sy) : ax_Valid N sy ax_c314 := ax_vd (g := ax_g314) h True.intro rfl rfl rfl ax_q314
theorem ax_v315 {N : Nat} {sy : sx_Y} (h : ax_Sc N sy) : ax_Valid N sy ax_c315 := ax_vd (g := ax_g315) h True.intro rfl rfl rfl ax_q315
theorem ax_v316 {N : Nat} {sy : sx_Y} (h : ax_Sc N sy) : ax_Valid N sy ax_c316 := ax_vd (g := ax_g316) h True.intro rfl rfl rfl ax_q316
theorem ax_v317 {N : Nat} {sy : sx_Y} (h : ax_Sc N sy) : ax_Valid N sy ax_c317 := ax_vd (g := ax_g317) h True.intro rfl rfl rfl ax_q317
theorem ax_v318 {N : Nat} {sy : sx_Y} (h : ax_Sc N sy) : ax_Valid N sy ax_c318 := ax_vd (g := ax_g318) h True.intro rfl rfl rfl ax_q318
theorem ax_v319 {N : Nat} {sy : sx_Y} (h : ax_Sc N sy) : ax_Valid N sy ax_c319 := ax_vd (g := ax_g319) h True.intro rfl rfl rfl ax_q319
theorem ax_v320 {N : Nat} {sy : sx_Y} (h : ax_Sc N sy) : ax_Valid N sy ax_c320 := ax_vd (g := ax_g320) h True.intro rfl rfl rfl ax_q320
theorem ax_v321 {N : Nat} {sy : sx_Y} (h : ax_Sc N sy) : ax_Valid N sy ax_c321 := ax_vd (g := ax_g321) h True.intro rfl rfl rfl ax_q321
theorem ax_v322 {N : Nat} {sy : sx_Y} (h : ax_Sc N sy) : ax_Valid N sy ax_c322 := ax_vd (g := ax_g322) h True.intro rfl rfl rfl ax_q322
theorem ax_v323 {N : Nat} {sy : sx_Y} (h : ax_Sc N sy) : ax_Valid N sy ax_c323 := ax_vd (g := ax_g323) h True.intro rfl rfl rfl ax_q323
theorem ax_v324 {N : Nat} {sy : sx_Y} (h : ax_Sc N sy) : ax_Valid N sy ax_c324 := ax_vd (g := ax_g324) h True.intro rfl rfl rfl ax_q324
theorem ax_v325 {N : Nat} {sy : sx_Y} (h : ax_Sc N sy) : ax_Valid N sy ax_c325 := ax_vd (g := ax_g325) h True.intro rfl rfl rfl ax_q325
theorem ax_v326 {N : Nat} {sy : sx_Y} (h : ax_Sc N sy) : ax_Valid N sy ax_c326 := ax_vd (g := ax_g326) h True.intro rfl rfl rfl ax_q326
theorem ax_v327 {N : Nat} {sy : sx_Y} (h : ax_Sc N sy) : ax_Valid N sy ax_c327 := ax_vd (g := ax_g327) h True.intro rfl rfl rfl ax_q327
theorem ax_v328 {N : Nat} {sy : sx_Y} (h : ax_Sc N sy) : ax_Valid N sy ax_c328 := ax_vd (g := ax_g328) h True.intro rfl rfl rfl ax_q328
theorem ax_v329 {N : Nat} {sy : sx_Y} (h : ax_Sc N sy) : ax_Valid N sy ax_c329 := ax_vd (g := ax_g329) h True.intro rfl rfl rfl ax_q329
theorem ax_v330 {N : Nat} {sy : sx_Y} (h : ax_Sc N sy) : ax_Valid N sy ax_c330 := ax_vd (g := ax_g330) h True.intro rfl rfl rfl ax_q330
theorem ax_v331 {N : Nat} {sy : sx_Y} (h : ax_Sc N sy) : ax_Valid N sy ax_c331 := ax_vd (g := ax_g331) h True.intro rfl rfl rfl ax_q331
theorem ax_v332 {N : Nat} {sy : sx_Y} (h : ax_Sc N sy) : ax_Valid N sy ax_c332 := ax_vd (g := ax_g332) h True.intro rfl rfl rfl ax_q332
theorem ax_v333 {N : Nat} {sy : sx_Y} (h : ax_Sc N sy) : ax_Valid N sy ax_c333 := ax_vd (g := ax_g333) h True.intro rfl rfl rfl ax_q333
theorem ax_v334 {N : Nat} {sy : sx_Y} (h : ax_Sc N sy) : ax_Valid N sy ax_c334 := ax_vd (g := ax_g334) h True.intro rfl rfl rfl ax_q334
theorem ax_v335 {N : Nat} {sy : sx_Y} (h : ax_Sc N sy) : ax_Valid N sy ax_c335 := ax_vd (g := ax_g335) h True.intro rfl rfl rfl ax_q335
theorem ax_v336 {N : Nat} {sy : sx_Y} (h : ax_Sc N sy) : ax_Valid N sy ax_c336 := ax_vd (g := ax_g336) h True.intro rfl rfl rfl ax_q336
theorem ax_v337 {N : Nat} {sy : sx_Y} (h : ax_Sc N sy) : ax_Valid N sy ax_c337 := ax_vd (g := ax_g337) h True.intro rfl rfl rfl ax_q337
theorem ax_v338 {N : Nat} {sy : sx_Y} (h : ax_Sc N sy) : ax_Valid N sy ax_c338 := ax_vd (g := ax_g338) h True.intro rfl rfl rfl ax_q338
theorem ax_v339 {N : Nat} {sy : sx_Y} (h : ax_Sc N sy) : ax_Valid N sy ax_c339 := ax_vd (g := ax_g339) h True.intro rfl rfl rfl ax_q339
theorem ax_v340 {N : Nat} {sy : sx_Y} (h : ax_Sc N sy) : ax_Valid N sy ax_c340 := ax_vd (g := ax_g340) h True.intro rfl rfl rfl ax_q340
theorem ax_v341 {N : Nat} {sy : sx_Y} (h : ax_Sc N sy) : ax_Valid N sy ax_c341 := ax_vd (g := ax_g341) h True.intro rfl rfl rfl ax_q341
theorem ax_v342 {N : Nat} {sy : sx_Y} (h : ax_Sc N sy) : ax_Valid N sy ax_c342 := ax_vd (g := ax_g342) h True.intro rfl rfl rfl ax_q342
theorem ax_v343 {N : Nat} {sy : sx_Y} (h : ax_Sc N sy) : ax_Valid N sy ax_c343 := ax_vd (g := ax_g343) h True.intro rfl rfl rfl ax_q343
theorem ax_v344 {N : Nat} {sy : sx_Y} (h : ax_Sc N sy) : ax_Valid N sy ax_c344 := ax_vd (g := ax_g344) h True.intro rfl rfl rfl ax_q344
theorem ax_v345 {N : Nat} {sy : sx_Y} (h : ax_Sc N sy) : ax_Valid N sy ax_c345 := ax_vd (g := ax_g345) h True.intro rfl rfl rfl ax_q345
theorem ax_v346 {N : Nat} {sy : sx_Y} (h : ax_Sc N sy) : ax_Valid N sy ax_c346 := ax_vd (g := ax_g346) h True.intro rfl rfl rfl ax_q346
theorem ax_v347 {N : Nat} {sy : sx_Y} (h : ax_Sc N sy) : ax_Valid N sy ax_c347 := ax_vd (g := ax_g347) h True.intro rfl rfl rfl ax_q347
theorem ax_v348 {N : Nat} {sy : sx_Y} (h : ax_Sc N sy) : ax_Valid N sy ax_c348 := ax_vd (g := ax_g348) h True.intro rfl rfl rfl ax_q348
theorem ax_v349 {N : Nat} {sy : sx_Y} (h : ax_Sc N sy) : ax_Valid N sy ax_c349 := ax_vd (g := ax_g349) h True.intro rfl rfl rfl ax_q349
theorem ax_v350 {N : Nat} {sy : sx_Y} (h : ax_Sc N sy) : ax_Valid N sy ax_c350 := ax_vd (g := ax_g350) h True.intro rfl rfl rfl ax_q350
theorem ax_v351 {N : Nat} {sy : sx_Y} (h : ax_Sc N sy) : ax_Valid N sy ax_c351 := ax_vd (g := ax_g351) h True.intro rfl rfl rfl ax_q351
theorem ax_v352 {N : Nat} {sy : sx_Y} (h : ax_Sc N sy) : ax_Valid N sy ax_c352 := ax_vd (g := ax_g352) h True.intro rfl rfl rfl ax_q352
theorem ax_v353 {N : Nat} {sy : sx_Y} (h : ax_Sc N sy) : ax_Valid N sy ax_c353 := ax_vd (g := ax_g353) h True.intro rfl rfl rfl ax_q353
theorem ax_v354 {N : Nat} {sy : sx_Y} (h : ax_Sc N sy) : ax_Valid N sy ax_c354 := ax_vd (g := ax_g354) h True.intro rfl rfl rfl ax_q354
theorem ax_v355 {N : Nat} {sy : sx_Y} (h : ax_Sc N sy) : ax_Valid N sy ax_c355 := ax_vd (g := ax_g355) h True.intro rfl rfl rfl ax_q355
theorem ax_v356 {N : Nat} {sy : sx_Y} (h : ax_Sc N sy) : ax_Valid N sy ax_c356 := ax_vd (g := ax_g356) h True.intro rfl rfl rfl ax_q356
theorem ax_v357 {N : Nat} {sy : sx_Y} (h : ax_Sc N sy) : ax_Valid N sy ax_c357 := ax_vd (g := ax_g357) h True.intro rfl rfl rfl ax_q357
theorem ax_v358 {N : Nat} {sy : sx_Y} (h : ax_Sc N sy) : ax_Valid N sy ax_c358 := ax_vd (g := ax_g358) h True.intro rfl rfl rfl ax_q358
theorem ax_v359 {N : Nat} {sy : sx_Y} (h : ax_Sc N sy) : ax_Valid N sy ax_c359 := ax_vd (g := ax_g359) h True.intro rfl rfl rfl ax_q359
theorem ax_v360 {N : Nat} {sy : sx_Y} (h : ax_Sc N sy) : ax_Valid N sy ax_c360 := ax_vd (g := ax_g360) h True.intro rfl rfl rfl ax_q360
theorem ax_v361 {N : Nat} {sy : sx_Y} (h : ax_Sc N sy) : ax_Valid N sy ax_c361 := ax_vd (g := ax_g361) h True.intro rfl rfl rfl ax_q361
theorem ax_v362 {N : Nat} {sy : sx_Y} (h : ax_Sc N sy) : ax_Valid N sy ax_c362 := ax_vd (g := ax_g362) h True.intro rfl rfl rfl ax_q362
theorem ax_v363 {N : Nat} {sy : sx_Y} (h : ax_Sc N sy) : ax_Valid N sy ax_c363 := ax_vd (g := ax_g363) h True.intro rfl rfl rfl ax_q363
theorem ax_v364 {N : Nat} {sy : sx_Y} (h : ax_Sc N sy) : ax_Valid N sy ax_c364 := ax_vd (g := ax_g364) h True.intro rfl rfl rfl ax_q364
theorem ax_v365 {N : Nat} {sy : sx_Y} (h : ax_Sc N sy) : ax_Valid N sy ax_c365 := ax_vd (g := ax_g365) h True.intro rfl rfl rfl ax_q365
theorem ax_v366 {N : Nat} {sy : sx_Y} (h : ax_Sc N sy) : ax_Valid N sy ax_c366 := ax_vd (g := ax_g366) h True.intro rfl rfl rfl ax_q366
theorem ax_v367 {N : Nat} {sy : sx_Y} (h : ax_Sc N sy) : ax_Valid N sy ax_c367 := ax_vd (g := ax_g367) h True.intro rfl rfl rfl ax_q367
theorem ax_v368 {N : Nat} {sy : sx_Y} (h : ax_Sc N sy) : ax_Valid N sy ax_c368 := ax_vd (g := ax_g368) h True.intro rfl rfl rfl ax_q368
theorem ax_v369 {N : Nat} {sy : sx_Y} (h : ax_Sc N sy) : ax_Valid N sy ax_c369 := ax_vd (g := ax_g369) h True.intro rfl rfl rfl ax_q369
theorem ax_v370 {N : Nat} {sy : sx_Y} (h : ax_Sc N sy) : ax_Valid N sy ax_c370 := ax_vd (g := ax_g370) h True.intro rfl rfl rfl ax_q370
theorem ax_v371 {N : Nat} {sy : sx_Y} (h : ax_Sc N sy) : ax_Valid N sy ax_c371 := ax_vd (g := ax_g371) h True.intro rfl rfl rfl ax_q371
theorem ax_v372 {N : Nat} {sy : sx_Y} (h : ax_Sc N sy) : ax_Valid N sy ax_c372 := ax_vd (g := ax_g372) h True.intro rfl rfl rfl ax_q372
theorem ax_v373 {N : Nat} {sy : sx_Y} (h : ax_Sc N sy) : ax_Valid N sy ax_c373 := ax_vd (g := ax_g373) h True.intro rfl rfl rfl ax_q373
theorem ax_v374 {N : Nat} {sy : sx_Y} (h : ax_Sc N sy) : ax_Valid N sy ax_c374 := ax_vd (g := ax_g374) h True.intro rfl rfl rfl ax_q374
theorem ax_v375 {N : Nat} {sy : sx_Y} (h : ax_Sc N sy) : ax_Valid N sy ax_c375 := ax_vd (g := ax_g375) h True.intro rfl rfl rfl ax_q375
theorem ax_v376 {N : Nat} {sy : sx_Y} (h : ax_Sc N sy) : ax_Valid N sy ax_c376 := ax_vd (g := ax_g376) h True.intro rfl rfl rfl ax_q376
theorem ax_v377 {N : Nat} {sy : sx_Y} (h : ax_Sc N sy) : ax_Valid N sy ax_c377 := ax_vd (g := ax_g377) h True.intro rfl rfl rfl ax_q377
theorem ax_v378 {N : Nat} {sy : sx_Y} (h : ax_Sc N sy) : ax_Valid N sy ax_c378 := ax_vd (g := ax_g378) h True.intro rfl rfl rfl ax_q378
theorem ax_v379 {N : Nat} {sy : sx_Y} (h : ax_Sc N sy) : ax_Valid N sy ax_c379 := ax_vd (g := ax_g379) h True.intro rfl rfl rfl ax_q379
theorem ax_v380 {N : Nat} {sy : sx_Y} (h : ax_Sc N sy) : ax_Valid N sy ax_c380 := ax_vd (g := ax_g380) h True.intro rfl rfl rfl ax_q380
theorem ax_v381 {N : Nat} {sy : sx_Y} (h : ax_Sc N sy) : ax_Valid N sy ax_c381 := ax_vd (g := ax_g381) h True.intro rfl rfl rfl ax_q381
theorem ax_v382 {N : Nat} {sy : sx_Y} (h : ax_Sc N sy) : ax_Valid N sy ax_c382 := ax_vd (g := ax_g382) h True.intro rfl rfl rfl ax_q382
theorem ax_v383 {N : Nat} {sy : sx_Y} (h : ax_Sc N sy) : ax_Valid N sy ax_c383 := ax_vd (g := ax_g383) h True.intro rfl rfl rfl ax_q383
theorem ax_v384 {N : Nat} {sy : sx_Y} (h : ax_Sc N sy) : ax_Valid N sy ax_c384 := ax_vd (g := ax_g384) h True.intro rfl rfl rfl ax_q384
theorem ax_v385 {N : Nat} {sy : sx_Y} (h : ax_Sc N sy) : ax_Valid N sy ax_c385 := ax_vd (g := ax_g385) h True.intro rfl rfl rfl ax_q385
theorem ax_v386 {N : Nat} {sy : sx_Y} (h : ax_Sc N sy) : ax_Valid N sy ax_c386 := ax_vd (g := ax_g386) h True.intro rfl rfl rfl ax_q386
theorem ax_v387 {N : Nat} {sy : sx_Y} (h : ax_Sc N sy) : ax_Valid N sy ax_c387 := ax_vd (g := ax_g387) h True.intro rfl rfl rfl ax_q387
theorem ax_v388 {N : Nat} {sy : sx_Y} (h : ax_Sc N sy) : ax_Valid N sy ax_c388 := ax_vd (g := ax_g388) h True.intro rfl rfl rfl ax_q388
theorem ax_v389 {N : Nat} {sy : sx_Y} (h : ax_Sc N sy) : ax_Valid N sy ax_c389 := ax_vd (g := ax_g389) h True.intro rfl rfl rfl ax_q389
theorem ax_v390 {N : Nat} {sy : sx_Y} (h : ax_Sc N sy) : ax_Valid N sy ax_c390 := ax_vd (g := ax_g390) h True.intro rfl rfl rfl ax_q390
theorem ax_v391 {N : Nat} {sy : sx_Y} (h : ax_Sc N sy) : ax_Valid N sy ax_c391 := ax_vd (g := ax_g391) h True.intro rfl rfl rfl ax_q391
theorem ax_v392 {N : Nat} {sy : sx_Y} (h : ax_Sc N sy) : ax_Valid N sy ax_c392 := ax_vd (g := ax_g392) h True.intro rfl rfl rfl ax_q392
theorem ax_v393 {N : Nat} {sy : sx_Y} (h : ax_Sc N sy) : ax_Valid N sy ax_c393 := ax_vd (g := ax_g393) h True.intro rfl rfl rfl ax_q393
theorem ax_v394 {N : Nat} {sy : sx_Y} (h : ax_Sc N sy) : ax_Valid N sy ax_c394 := ax_vd (g := ax_g394) h True.intro rfl rfl rfl ax_q394
theorem ax_v395 {N : Nat} {sy : sx_Y} (h : ax_Sc N sy) : ax_Valid N sy ax_c395 := ax_vd (g := ax_g395) h True.intro rfl rfl rfl ax_q395
theorem ax_v396 {N : Nat} {sy : sx_Y} (h : ax_Sc N sy) : ax_Valid N sy ax_c396 := ax_vd (g := ax_g396) h True.intro rfl rfl rfl ax_q396
theorem ax_v397 {N : Nat} {sy : sx_Y} (h : ax_Sc N sy) : ax_Valid N sy ax_c397 := ax_vd (g := ax_g397) h True.intro rfl rfl rfl ax_q397
theorem ax_v398 {N : Nat} {sy : sx_Y} (h : ax_Sc N sy) : ax_Valid N sy ax_c398 := ax_vd (g := ax_g398) h True.intro rfl rfl rfl ax_q398
theorem ax_v399 {N : Nat} {sy : sx_Y} (h : ax_Sc N sy) : ax_Valid N sy ax_c399 := ax_vd (g := ax_g399) h True.intro rfl rfl rfl ax_q399
theorem ax_v400 {N : Nat} {sy : sx_Y} (h : ax_Sc N sy) : ax_Valid N sy ax_c400 := ax_vd (g := ax_g400) h True.intro rfl rfl rfl ax_q400
theorem ax_v401 {N : Nat} {sy : sx_Y} (h : ax_Sc N sy) : ax_Valid N sy ax_c401 := ax_vd (g := ax_g401) h True.intro rfl rfl rfl ax_q401
theorem ax_v402 {N : Nat} {sy : sx_Y} (h : ax_Sc N sy) : ax_Valid N sy ax_c402 := ax_vd (g := ax_g402) h True.intro rfl rfl rfl ax_q402
theorem ax_v403 {N : Nat} {sy : sx_Y} (h : ax_Sc N sy) : ax_Valid N sy ax_c403 := ax_vd (g := ax_g403) h True.intro rfl rfl rfl ax_q403
theorem ax_v404 {N : Nat} {sy : sx_Y} (h : ax_Sc N sy) : ax_Valid N sy ax_c404 := ax_vd (g := ax_g404) h True.intro rfl rfl rfl ax_q404
theorem ax_v405 {N : Nat} {sy : sx_Y} (h : ax_Sc N sy) : ax_Valid N sy ax_c405 := ax_vd (g := ax_g405) h True.intro rfl rfl rfl ax_q405
theorem ax_v406 {N : Nat} {sy : sx_Y} (h : ax_Sc N sy) : ax_Valid N sy ax_c406 := ax_vd (g := ax_g406) h True.intro rfl rfl rfl ax_q406
theorem ax_v407 {N : Nat} {sy : sx_Y} (h : ax_Sc N sy) : ax_Valid N sy ax_c407 := ax_vd (g := ax_g407) h True.intro rfl rfl rfl ax_q407
theorem ax_v408 {N : Nat} {sy : sx_Y} (h : ax_Sc N sy) : ax_Valid N sy ax_c408 := ax_vd (g := ax_g408) h True.intro rfl rfl rfl ax_q408
theorem ax_v409 {N : Nat} {sy : sx_Y} (h : ax_Sc N sy) : ax_Valid N sy ax_c409 := ax_vd (g := ax_g409) h True.intro rfl rfl rfl ax_q409
theorem ax_v410 {N : Nat} {sy : sx_Y} (h : ax_Sc N sy) : ax_Valid N sy ax_c410 := ax_vd (g := ax_g410) h True.intro rfl rfl rfl ax_q410
theorem ax_v411 {N : Nat} {sy : sx_Y} (h : ax_Sc N sy) : ax_Valid N sy ax_c411 := ax_vd (g := ax_g411) h True.intro rfl rfl rfl ax_q411
theorem ax_v412 {N : Nat} {sy : sx_Y} (h : ax_Sc N sy) : ax_Valid N sy ax_c412 := ax_vd (g := ax_g412) h True.intro rfl rfl rfl ax_q412
theorem ax_v413 {N : Nat} {sy : sx_Y} (h : ax_Sc N sy) : ax_Valid N sy ax_c413 := ax_vd (g := ax_g413) h True.intro rfl rfl rfl ax_q413
theorem ax_v414 {N : Nat} {sy : sx_Y} (h : ax_Sc N sy) : ax_Valid N sy ax_c414 := ax_vd (g := ax_g414) h True.intro rfl rfl rfl ax_q414
theorem ax_v415 {N : Nat} {sy : sx_Y} (h : ax_Sc N sy) : ax_Valid N sy ax_c415 := ax_vd (g := ax_g415) h True.intro rfl rfl rfl ax_q415
theorem ax_v416 {N : Nat} {sy : sx_Y} (h : ax_Sc N sy) : ax_Valid N sy ax_c416 := ax_vd (g := ax_g416) h True.intro rfl rfl rfl ax_q416
theorem ax_v417 {N : Nat} {sy : sx_Y} (h : ax_Sc N sy) : ax_Valid N sy ax_c417 := ax_vd (g := ax_g417) h True.intro rfl rfl rfl ax_q417
theorem ax_v418 {N : Nat} {sy : sx_Y} (h : ax_Sc N sy) : ax_Valid N sy ax_c418 := ax_vd (g := ax_g418) h True.intro rfl rfl rfl ax_q418
theorem ax_v419 {N : Nat} {sy : sx_Y} (h : ax_Sc N sy) : ax_Valid N sy ax_c419 := ax_vd (g := ax_g419) h True.intro rfl rfl rfl ax_q419
theorem ax_v420 {N : Nat} {sy : sx_Y} (h : ax_Sc N sy) : ax_Valid N sy ax_c420 := ax_vd (g := ax_g420) h True.intro rfl rfl rfl ax_q420
theorem ax_v421 {N : Nat} {sy : sx_Y} (h : ax_Sc N sy) : ax_Valid N sy ax_c421 := ax_vd (g := ax_g421) h True.intro rfl rfl rfl ax_q421
theorem ax_v422 {N : Nat} {sy : sx_Y} (h : ax_Sc N sy) : ax_Valid N sy ax_c422 := ax_vd (g := ax_g422) h True.intro rfl rfl rfl ax_q422
theorem ax_v423 {N : Nat} {sy : sx_Y} (h : ax_Sc N sy) : ax_Valid N sy ax_c423 := ax_vd (g := ax_g423) h True.intro rfl rfl rfl ax_q423
theorem ax_v424 {N : Nat} {sy : sx_Y} (h : ax_Sc N sy) : ax_Valid N sy ax_c424 := ax_vd (g := ax_g424) h True.intro rfl rfl rfl ax_q424
theorem ax_v425 {N : Nat} {sy : sx_Y} (h : ax_Sc N sy) : ax_Valid N sy ax_c425 := ax_vd (g := ax_g425) h True.intro rfl rfl rfl ax_q425
theorem ax_v426 {N : Nat} {sy : sx_Y} (h : ax_Sc N sy) : ax_Valid N sy ax_c426 := ax_vd (g := ax_g426) h True.intro rfl rfl rfl ax_q426
theorem ax_v427 {N : Nat} {sy : sx_Y} (h : ax_Sc N sy) : ax_Valid N sy ax_c427 := ax_vd (g := ax_g427) h True.intro rfl rfl rfl ax_q427
theorem ax_v428 {N : Nat} {sy : sx_Y} (h : ax_Sc N sy) : ax_Valid N sy ax_c428 := ax_vd (g := ax_g428) h True.intro rfl rfl rfl ax_q428
theorem ax_v429 {N : Nat} {sy : sx_Y} (h : ax_Sc N sy) : ax_Valid N sy ax_c429 := ax_vd (g := ax_g429) h True.intro rfl rfl rfl ax_q429
theorem ax_v430 {N : Nat} {sy : sx_Y} (h : ax_Sc N sy) : ax_Valid N sy ax_c430 := ax_vd (g := ax_g430) h True.intro rfl rfl rfl ax_q430
theorem ax_v431 {N : Nat} {sy : sx_Y} (h : ax_Sc N sy) : ax_Valid N sy ax_c431 := ax_vd (g := ax_g431) h True.intro rfl rfl rfl ax_q431
theorem ax_v432 {N : Nat} {sy : sx_Y} (h : ax_Sc N sy) : ax_Valid N sy ax_c432 := ax_vd (g := ax_g432) h True.intro rfl rfl rfl ax_q432
theorem ax_v433 {N : Nat} {sy : sx_Y} (h : ax_Sc N sy) : ax_Valid N sy ax_c433 := ax_vd (g := ax_g433) h True.intro rfl rfl rfl ax_q433
theorem ax_v434 {N : Nat} {sy : sx_Y} (h : ax_Sc N sy) : ax_Valid N sy ax_c434 := ax_vd (g := ax_g434) h True.intro rfl rfl rfl ax_q434
theorem ax_v435 {N : Nat} {sy : sx_Y} (h : ax_Sc N sy) : ax_Valid N sy ax_c435 := ax_vd (g := ax_g435) h True.intro rfl rfl rfl ax_q435
theorem ax_v436 {N : Nat} {sy : sx_Y} (h : ax_Sc N sy) : ax_Valid N sy ax_c436 := ax_vd (g := ax_g436) h True.intro rfl rfl rfl ax_q436
theorem ax_v437 {N : Nat} {sy : sx_Y} (h : ax_Sc N sy) : ax_Valid N sy ax_c437 := ax_vd (g := ax_g437) h True.intro rfl rfl rfl ax_q437
theorem ax_v438 {N : Nat} {sy : sx_Y} (h : ax_Sc N sy) : ax_Valid N sy ax_c438 := ax_vd (g := ax_g438) h True.intro rfl rfl rfl ax_q438
theorem ax_v439 {N : Nat} {sy : sx_Y} (h : ax_Sc N sy) : ax_Valid N sy ax_c439 := ax_vd (g := ax_g439) h True.intro rfl rfl rfl ax_q439
theorem ax_v440 {N : Nat} {sy : sx_Y} (h : ax_Sc N sy) : ax_Valid N sy ax_c440 := ax_vd (g := ax_g440) h True.intro rfl rfl rfl ax_q440
theorem ax_v441 {N : Nat} {sy : sx_Y} (h : ax_Sc N sy) : ax_Valid N sy ax_c441 := ax_vd (g := ax_g441) h True.intro rfl rfl rfl ax_q441
theorem ax_v442 {N : Nat} {sy : sx_Y} (h : ax_Sc N sy) : ax_Valid N sy ax_c442 := ax_vd (g := ax_g442) h True.intro rfl rfl rfl ax_q442
theorem ax_v443 {N : Nat} {sy : sx_Y} (h : ax_Sc N sy) : ax_Valid N sy ax_c443 := ax_vd (g := ax_g443) h True.intro rfl rfl rfl ax_q443
theorem ax_v444 {N : Nat} {sy : sx_Y} (h : ax_Sc N sy) : ax_Valid N sy ax_c444 := ax_vd (g := ax_g444) h True.intro rfl rfl rfl ax_q444
theorem ax_v445 {N : Nat} {sy : sx_Y} (h : ax_Sc N sy) : ax_Valid N sy ax_c445 := ax_vd (g := ax_g445) h True.intro rfl rfl rfl ax_q445
theorem ax_v446 {N : Nat} {sy : sx_Y} (h : ax_Sc N sy) : ax_Valid N sy ax_c446 := ax_vd (g := ax_g446) h True.intro rfl rfl rfl ax_q446
theorem ax_v447 {N : Nat} {sy : sx_Y} (h : ax_Sc N sy) : ax_Valid N sy ax_c447 := ax_vd (g := ax_g447) h True.intro rfl rfl rfl ax_q447
theorem ax_v448 {N : Nat} {sy : sx_Y} (h : ax_Sc N sy) : ax_Valid N sy ax_c448 := ax_vd (g := ax_g448) h True.intro rfl rfl rfl ax_q448
theorem ax_v449 {N : Nat} {sy : sx_Y} (h : ax_Sc N sy) : ax_Valid N sy ax_c449 := ax_vd (g := ax_g449) h True.intro rfl rfl rfl ax_q449
theorem ax_v450 {N : Nat} {sy : sx_Y} (h : ax_Sc N sy) : ax_Valid N sy ax_c450 := ax_vd (g := ax_g450) h True.intro rfl rfl rfl ax_q450
theorem ax_v451 {N : Nat} {sy : sx_Y} (h : ax_Sc N sy) : ax_Valid N sy ax_c451 := ax_vd (g := ax_g451) h True.intro rfl rfl rfl ax_q451
theorem ax_v452 {N : Nat} {sy : sx_Y} (h : ax_Sc N sy) : ax_Valid N sy ax_c452 := ax_vd (g := ax_g452) h True.intro rfl rfl rfl ax_q452
theorem ax_v453 {N : Nat} {sy : sx_Y} (h : ax_Sc N sy) : ax_Valid N sy ax_c453 := ax_vd (g := ax_g453) h True.intro rfl rfl rfl ax_q453
theorem ax_v454 {N : Nat} {sy : sx_Y} (h : ax_Sc N sy) : ax_Valid N sy ax_c454 := ax_vd (g := ax_g454) h True.intro rfl rfl rfl ax_q454
theorem ax_v455 {N : Nat} {sy : sx_Y} (h : ax_Sc N sy) : ax_Valid N sy ax_c455 := ax_vd (g := ax_g455) h True.intro rfl rfl rfl ax_q455
theorem ax_v456 {N : Nat} {sy : sx_Y} (h : ax_Sc N sy) : ax_Valid N sy ax_c456 := ax_vd (g := ax_g456) h True.intro rfl rfl rfl ax_q456
theorem ax_v457 {N : Nat} {sy : sx_Y} (h : ax_Sc N sy) : ax_Valid N sy ax_c457 := ax_vd (g := ax_g457) h True.intro rfl rfl rfl ax_q457
theorem ax_v458 {N : Nat} {sy : sx_Y} (h : ax_Sc N sy) : ax_Valid N sy ax_c458 := ax_vd (g := ax_g458) h True.intro rfl rfl rfl ax_q458
theorem ax_v459 {N : Nat} {sy : sx_Y} (h : ax_Sc N sy) : ax_Valid N sy ax_c459 := ax_vd (g := ax_g459) h True.intro rfl rfl rfl ax_q459
theorem ax_v460 {N : Nat} {sy : sx_Y} (h : ax_Sc N sy) : ax_Valid N sy ax_c460 := ax_vd (g := ax_g460) h True.intro rfl rfl rfl ax_q460
theorem ax_v461 {N : Nat} {sy : sx_Y} (h : ax_Sc N sy) : ax_Valid N sy ax_c461 := ax_vd (g := ax_g461) h True.intro rfl rfl rfl ax_q461
theorem ax_v462 {N : Nat} {sy : sx_Y} (h : ax_Sc N sy) : ax_Valid N sy ax_c462 := ax_vd (g := ax_g462) h True.intro rfl rfl rfl ax_q462
theorem ax_v463 {N : Nat} {sy : sx_Y} (h : ax_Sc N sy) : ax_Valid N sy ax_c463 := ax_vd (g := ax_g463) h True.intro rfl rfl rfl ax_q463
theorem ax_v464 {N : Nat} {sy : sx_Y} (h : ax_Sc N sy) : ax_Valid N sy ax_c464 := ax_vd (g := ax_g464) h True.intro rfl rfl rfl ax_q464
theorem ax_v465 {N : Nat} {sy : sx_Y} (h : ax_Sc N sy) : ax_Valid N sy ax_c465 := ax_vd (g := ax_g465) h True.intro rfl rfl rfl ax_q465
theorem ax_v466 {N : Nat} {sy : sx_Y} (h : ax_Sc N sy) : ax_Valid N sy ax_c466 := ax_vd (g := ax_g466) h True.intro rfl rfl rfl ax_q466
theorem ax_v467 {N : Nat} {sy : sx_Y} (h : ax_Sc N sy) : ax_Valid N sy ax_c467 := ax_vd (g := ax_g467) h True.intro rfl rfl rfl ax_q467
theorem ax_v468 {N : Nat} {sy : sx_Y} (h : ax_Sc N sy) : ax_Valid N sy ax_c468 := ax_vd (g := ax_g468) h True.intro rfl rfl rfl ax_q468
theorem ax_v469 {N : Nat} {sy : sx_Y} (h : ax_Sc N sy) : ax_Valid N sy ax_c469 := ax_vd (g := ax_g469) h True.intro rfl rfl rfl ax_q469
theorem ax_v470 {N : Nat} {sy : sx_Y} (h : ax_Sc N sy) : ax_Valid N sy ax_c470 := ax_vd (g := ax_g470) h True.intro rfl rfl rfl ax_q470
theorem ax_v471 {N : Nat} {sy : sx_Y} (h : ax_Sc N sy) : ax_Valid N sy ax_c471 := ax_vd (g := ax_g471) h True.intro rfl rfl rfl ax_q471
theorem ax_v472 {N : Nat} {sy : sx_Y} (h : ax_Sc N sy) : ax_Valid N sy ax_c472 := ax_vd (g := ax_g472) h True.intro rfl rfl rfl ax_q472
theorem ax_v473 {N : Nat} {sy : sx_Y} (h : ax_Sc N sy) : ax_Valid N sy ax_c473 := ax_vd (g := ax_g473) h True.intro rfl rfl rfl ax_q473
theorem ax_v474 {N : Nat} {sy : sx_Y} (h : ax_Sc N sy) : ax_Valid N sy ax_c474 := ax_vd (g := ax_g474) h True.intro rfl rfl rfl ax_q474
theorem ax_v475 {N : Nat} {sy : sx_Y} (h : ax_Sc N sy) : ax_Valid N sy ax_c475 := ax_vd (g := ax_g475) h True.intro rfl rfl rfl ax_q475
theorem ax_v476 {N : Nat} {sy : sx_Y} (h : ax_Sc N sy) : ax_Valid N sy ax_c476 := ax_vd (g := ax_g476) h True.intro rfl rfl rfl ax_q476
theorem ax_v477 {N : Nat} {sy : sx_Y} (h : ax_Sc N sy) : ax_Valid N sy ax_c477 := ax_vd (g := ax_g477) h True.intro rfl rfl rfl ax_q477
theorem ax_v478 {N : Nat} {sy : sx_Y} (h : ax_Sc N sy) : ax_Valid N sy ax_c478 := ax_vd (g := ax_g478) h True.intro rfl rfl rfl ax_q478
theorem ax_v479 {N : Nat} {sy : sx_Y} (h : ax_Sc N sy) : ax_Valid N sy ax_c479 := ax_vd (g := ax_g479) h True.intro rfl rfl rfl ax_q479
theorem ax_v480 {N : Nat} {sy : sx_Y} (h : ax_Sc N sy) : ax_Valid N sy ax_c480 := ax_vd (g := ax_g480) h True.intro rfl rfl rfl ax_q480
theorem ax_v481 {N : Nat} {sy : sx_Y} (h : ax_Sc N sy) : ax_Valid N sy ax_c481 := ax_vd (g := ax_g481) h True.intro rfl rfl rfl ax_q481
theorem ax_v482 {N : Nat} {sy : sx_Y} (h : ax_Sc N sy) : ax_Valid N sy ax_c482 := ax_vd (g := ax_g482) h True.intro rfl rfl rfl ax_q482
theorem ax_v483 {N : Nat} {sy : sx_Y} (h : ax_Sc N sy) : ax_Valid N sy ax_c483 := ax_vd (g := ax_g483) h True.intro rfl rfl rfl ax_q483
theorem ax_v484 {N : Nat} {sy : sx_Y} (h : ax_Sc N sy) : ax_Valid N sy ax_c484 := ax_vd (g := ax_g484) h True.intro rfl rfl rfl ax_q484
theorem ax_v485 {N : Nat} {sy : sx_Y} (h : ax_Sc N sy) : ax_Valid N sy ax_c485 := ax_vd (g := ax_g485) h True.intro rfl rfl rfl ax_q485
theorem ax_v486 {N : Nat} {sy : sx_Y} (h : ax_Sc N sy) : ax_Valid N sy ax_c486 := ax_vd (g := ax_g486) h True.intro rfl rfl rfl ax_q486
theorem ax_v487 {N : Nat} {sy : sx_Y} (h : ax_Sc N sy) : ax_Valid N sy ax_c487 := ax_vd (g := ax_g487) h True.intro rfl rfl rfl ax_q487
theorem ax_v488 {N : Nat} {sy : sx_Y} (h : ax_Sc N sy) : ax_Valid N sy ax_c488 := ax_vd (g := ax_g488) h True.intro rfl rfl rfl ax_q488
theorem ax_v489 {N : Nat} {sy : sx_Y} (h : ax_Sc N sy) : ax_Valid N sy ax_c489 := ax_vd (g := ax_g489) h True.intro rfl rfl rfl ax_q489
theorem ax_v490 {N : Nat} {sy : sx_Y} (h : ax_Sc N sy) : ax_Valid N sy ax_c490 := ax_vd (g := ax_g490) h True.intro rfl rfl rfl ax_q490
theorem ax_v491 {N : Nat} {sy : sx_Y} (h : ax_Sc N sy) : ax_Valid N sy ax_c491 := ax_vd (g := ax_g491) h True.intro rfl rfl rfl ax_q491
theorem ax_v492 {N : Nat} {sy : sx_Y} (h : ax_Sc N sy) : ax_Valid N sy ax_c492 := ax_vd (g := ax_g492) h True.intro rfl rfl rfl ax_q492
theorem ax_v493 {N : Nat} {sy : sx_Y} (h : ax_Sc N sy) : ax_Valid N sy ax_c493 := ax_vd (g := ax_g493) h True.intro rfl rfl rfl ax_q493
theorem ax_v494 {N : Nat} {sy : sx_Y} (h : ax_Sc N sy) : ax_Valid N sy ax_c494 := ax_vd (g := ax_g494) h True.intro rfl rfl rfl ax_q494
theorem ax_v495 {N : Nat} {sy : sx_Y} (h : ax_Sc N sy) : ax_Valid N sy ax_c495 := ax_vd (g := ax_g495) h True.intro rfl rfl rfl ax_q495
theorem ax_v496 {N : Nat} {sy : sx_Y} (h : ax_Sc N sy) : ax_Valid N sy ax_c496 := ax_vd (g := ax_g496) h True.intro rfl rfl rfl ax_q496
theorem ax_v497 {N : Nat} {sy : sx_Y} (h : ax_Sc N sy) : ax_Valid N sy ax_c497 := ax_vd (g := ax_g497) h True.intro rfl rfl rfl ax_q497
theorem ax_v498 {N : Nat} {sy : sx_Y} (h : ax_Sc N sy) : ax_Valid N sy ax_c498 := ax_vd (g := ax_g498) h True.intro rfl rfl rfl ax_q498
theorem ax_v499 {N : Nat} {sy : sx_Y} (h : ax_Sc N sy) : ax_Valid N sy ax_c499 := ax_vd (g := ax_g499) h True.intro rfl rfl rfl ax_q499
theorem ax_v500 {N : Nat} {sy : sx_Y} (h : ax_Sc N sy) : ax_Valid N sy ax_c500 := ax_vd (g := ax_g500) h True.intro rfl rfl rfl ax_q500
theorem ax_v501 {N : Nat} {sy : sx_Y} (h : ax_Sc N sy) : ax_Valid N sy ax_c501 := ax_vd (g := ax_g501) h True.intro rfl rfl rfl ax_q501
theorem ax_v502 {N : Nat} {sy : sx_Y} (h : ax_Sc N sy) : ax_Valid N sy ax_c502 := ax_vd (g := ax_g502) h True.intro rfl rfl rfl ax_q502
theorem ax_v503 {N : Nat} {sy : sx_Y} (h : ax_Sc N sy) : ax_Valid N sy ax_c503 := ax_vd (g := ax_g503) h True.intro rfl rfl rfl ax_q503
theorem ax_v504 {N : Nat} {sy : sx_Y} (h : ax_Sc N sy) : ax_Valid N sy ax_c504 := ax_vd (g := ax_g504) h True.intro rfl rfl rfl ax_q504
theorem ax_v505 {N : Nat} {sy : sx_Y} (h : ax_Sc N sy) : ax_Valid N sy ax_c505 := ax_vd (g := ax_g505) h True.intro rfl rfl rfl ax_q505
theorem ax_v506 {N : Nat} {sy : sx_Y} (h : ax_Sc N sy) : ax_Valid N sy ax_c506 := ax_vd (g := ax_g506) h True.intro rfl rfl rfl ax_q506
theorem ax_v507 {N : Nat} {sy : sx_Y} (h : ax_Sc N sy) : ax_Valid N sy ax_c507 := ax_vd (g := ax_g507) h True.intro rfl rfl rfl ax_q507
theorem ax_v508 {N : Nat} {sy : sx_Y} (h : ax_Sc N sy) : ax_Valid N sy ax_c508 := ax_vd (g := ax_g508) h True.intro rfl rfl rfl ax_q508
theorem ax_v509 {N : Nat} {sy : sx_Y} (h : ax_Sc N sy) : ax_Valid N sy ax_c509 := ax_vd (g := ax_g509) h True.intro rfl rfl rfl ax_q509
theorem ax_v510 {N : Nat} {sy : sx_Y} (h : ax_Sc N sy) : ax_Valid N sy ax_c510 := ax_vd (g := ax_g510) h True.intro rfl rfl rfl ax_q510
theorem ax_v511 {N : Nat} {sy : sx_Y} (h : ax_Sc N sy) : ax_Valid N sy ax_c511 := ax_vd (g := ax_g511) h True.intro rfl rfl rfl ax_q511
theorem ax_v512 {N : Nat} {sy : sx_Y} (h : ax_Sc N sy) : ax_Valid N sy ax_c512 := ax_vd (g := ax_g512) h True.intro rfl rfl rfl ax_q512
theorem ax_v513 {N : Nat} {sy : sx_Y} (h : ax_Sc N sy) : ax_Valid N sy ax_c513 := ax_vd (g := ax_g513) h True.intro rfl rfl rfl ax_q513
theorem ax_v514 {N : Nat} {sy : sx_Y} (h : ax_Sc N sy) : ax_Valid N sy ax_c514 := ax_vd (g := ax_g514) h True.intro rfl rfl rfl ax_q514
theorem ax_v515 {N : Nat} {sy : sx_Y} (h : ax_Sc N sy) : ax_Valid N sy ax_c515 := ax_vd (g := ax_g515) h True.intro rfl rfl rfl ax_q515
theorem ax_v516 {N : Nat} {sy : sx_Y} (h : ax_Sc N sy) : ax_Valid N sy ax_c516 := ax_vd (g := ax_g516) h True.intro rfl rfl rfl ax_q516
theorem ax_v517 {N : Nat} {sy : sx_Y} (h : ax_Sc N sy) : ax_Valid N sy ax_c517 := ax_vd (g := ax_g517) h True.intro rfl rfl rfl ax_q517
theorem ax_v518 {N : Nat} {sy : sx_Y} (h : ax_Sc N sy) : ax_Valid N sy ax_c518 := ax_vd (g := ax_g518) h True.intro rfl rfl rfl ax_q518
theorem ax_v519 {N : Nat} {sy : sx_Y} (h : ax_Sc N sy) : ax_Valid N sy ax_c519 := ax_vd (g := ax_g519) h True.intro rfl rfl rfl ax_q519
theorem ax_v520 {N : Nat} {sy : sx_Y} (h : ax_Sc N sy) : ax_Valid N sy ax_c520 := ax_vd (g := ax_g520) h True.intro rfl rfl rfl ax_q520
theorem ax_v521 {N : Nat} {sy : sx_Y} (h : ax_Sc N sy) : ax_Valid N sy ax_c521 := ax_vd (g := ax_g521) h True.intro rfl rfl rfl ax_q521
theorem ax_v522 {N : Nat} {sy : sx_Y} (h : ax_Sc N sy) : ax_Valid N sy ax_c522 := ax_vd (g := ax_g522) h True.intro rfl rfl rfl ax_q522
theorem ax_v523 {N : Nat} {sy : sx_Y} (h : ax_Sc N sy) : ax_Valid N sy ax_c523 := ax_vd (g := ax_g523) h True.intro rfl rfl rfl ax_q523
theorem ax_v524 {N : Nat} {sy : sx_Y} (h : ax_Sc N sy) : ax_Valid N sy ax_c524 := ax_vd (g := ax_g524) h True.intro rfl rfl rfl ax_q524
theorem ax_v525 {N : Nat} {sy : sx_Y} (h : ax_Sc N sy) : ax_Valid N sy ax_c525 := ax_vd (g := ax_g525) h True.intro rfl rfl rfl ax_q525
theorem ax_v526 {N : Nat} {sy : sx_Y} (h : ax_Sc N sy) : ax_Valid N sy ax_c526 := ax_vd (g := ax_g526) h True.intro rfl rfl rfl ax_q526
theorem ax_v527 {N : Nat} {sy : sx_Y} (h : ax_Sc N sy) : ax_Valid N sy ax_c527 := ax_vd (g := ax_g527) h True.intro rfl rfl rfl ax_q527
theorem ax_v528 {N : Nat} {sy : sx_Y} (h : ax_Sc N sy) : ax_Valid N sy ax_c528 := ax_vd (g := ax_g528) h True.intro rfl rfl rfl ax_q528
theorem ax_v529 {N : Nat} {sy : sx_Y} (h : ax_Sc N sy) : ax_Valid N sy ax_c529 := ax_vd (g := ax_g529) h True.intro rfl rfl rfl ax_q529
theorem ax_v530 {N : Nat} {sy : sx_Y} (h : ax_Sc N sy) : ax_Valid N sy ax_c530 := ax_vd (g := ax_g530) h True.intro rfl rfl rfl ax_q530
theorem ax_v531 {N : Nat} {sy : sx_Y} (h : ax_Sc N sy) : ax_Valid N sy ax_c531 := ax_vd (g := ax_g531) h True.intro rfl rfl rfl ax_q531
theorem ax_v532 {N : Nat} {sy : sx_Y} (h : ax_Sc N sy) : ax_Valid N sy ax_c532 := ax_vd (g := ax_g532) h True.intro rfl rfl rfl ax_q532
theorem ax_v533 {N : Nat} {sy : sx_Y} (h : ax_Sc N sy) : ax_Valid N sy ax_c533 := ax_vd (g := ax_g533) h True.intro rfl rfl rfl ax_q533
theorem ax_v534 {N : Nat} {sy : sx_Y} (h : ax_Sc N sy) : ax_Valid N sy ax_c534 := ax_vd (g := ax_g534) h True.intro rfl rfl rfl ax_q534
theorem ax_v535 {N : Nat} {sy : sx_Y} (h : ax_Sc N sy) : ax_Valid N sy ax_c535 := ax_vd (g := ax_g535) h True.intro rfl rfl rfl ax_q535
theorem ax_v536 {N : Nat} {sy : sx_Y} (h : ax_Sc N sy) : ax_Valid N sy ax_c536 := ax_vd (g := ax_g536) h True.intro rfl rfl rfl ax_q536
theorem ax_v537 {N : Nat} {sy : sx_Y} (h : ax_Sc N sy) : ax_Valid N sy ax_c537 := ax_vd (g := ax_g537) h True.intro rfl rfl rfl ax_q537
theorem ax_v538 {N : Nat} {sy : sx_Y} (h : ax_Sc N sy) : ax_Valid N sy ax_c538 := ax_vd (g := ax_g538) h True.intro rfl rfl rfl ax_q538
theorem ax_v539 {N : Nat} {sy : sx_Y} (h : ax_Sc N sy) : ax_Valid N sy ax_c539 := ax_vd (g := ax_g539) h True.intro rfl rfl rfl ax_q539
theorem ax_v540 {N : Nat} {sy : sx_Y} (h : ax_Sc N sy) : ax_Valid N sy ax_c540 := ax_vd (g := ax_g540) h True.intro rfl rfl rfl ax_q540
theorem ax_v541 {N : Nat} {sy : sx_Y} (h : ax_Sc N sy) : ax_Valid N sy ax_c541 := ax_vd (g := ax_g541) h True.intro rfl rfl rfl ax_q541
theorem ax_v542 {N : Nat} {sy : sx_Y} (h : ax_Sc N sy) : ax_Valid N sy ax_c542 := ax_vd (g := ax_g542) h True.intro rfl rfl rfl ax_q542
theorem ax_v543 {N : Nat} {sy : sx_Y} (h : ax_Sc N sy) : ax_Valid N sy ax_c543 := ax_vd (g := ax_g543) h True.intro rfl rfl rfl ax_q543
theorem ax_v544 {N : Nat} {sy : sx_Y} (h : ax_Sc N sy) : ax_Valid N sy ax_c544 := ax_vd (g := ax_g544) h True.intro rfl rfl rfl ax_q544
theorem ax_v545 {N : Nat} {sy : sx_Y} (h : ax_Sc N sy) : ax_Valid N sy ax_c545 := ax_vd (g := ax_g545) h True.intro rfl rfl rfl ax_q545
theorem ax_v546 {N : Nat} {sy : sx_Y} (h : ax_Sc N sy) : ax_Valid N sy ax_c546 := ax_vd (g := ax_g546) h True.intro rfl rfl rfl ax_q546
theorem ax_v547 {N : Nat} {sy : sx_Y} (h : ax_Sc N sy) : ax_Valid N sy ax_c547 := ax_vd (g := ax_g547) h True.intro rfl rfl rfl ax_q547
theorem ax_v548 {N : Nat} {sy : sx_Y} (h : ax_Sc N sy) : ax_Valid N sy ax_c548 := ax_vd (g := ax_g548) h True.intro rfl rfl rfl ax_q548
theorem ax_v549 {N : Nat} {sy : sx_Y} (h : ax_Sc N sy) : ax_Valid N sy ax_c549 := ax_vd (g := ax_g549) h True.intro rfl rfl rfl ax_q549
theorem ax_v550 {N : Nat} {sy : sx_Y} (h : ax_Sc N sy) : ax_Valid N sy ax_c550 := ax_vd (g := ax_g550) h True.intro rfl rfl rfl ax_q550
theorem ax_v551 {N : Nat} {sy : sx_Y} (h : ax_Sc N sy) : ax_Valid N sy ax_c551 := ax_vd (g := ax_g551) h True.intro rfl rfl rfl ax_q551
theorem ax_v552 {N : Nat} {sy : sx_Y} (h : ax_Sc N sy) : ax_Valid N sy ax_c552 := ax_vd (g := ax_g552) h True.intro rfl rfl rfl ax_q552
theorem ax_v553 {N : Nat} {sy : sx_Y} (h : ax_Sc N sy) : ax_Valid N sy ax_c553 := ax_vd (g := ax_g553) h True.intro rfl rfl rfl ax_q553
theorem ax_v554 {N : Nat} {sy : sx_Y} (h : ax_Sc N sy) : ax_Valid N sy ax_c554 := ax_vd (g := ax_g554) h True.intro rfl rfl rfl ax_q554
theorem ax_v555 {N : Nat} {sy : sx_Y} (h : ax_Sc N sy) : ax_Valid N sy ax_c555 := ax_vd (g := ax_g555) h True.intro rfl rfl rfl ax_q555
theorem ax_v556 {N : Nat} {sy : sx_Y} (h : ax_Sc N sy) : ax_Valid N sy ax_c556 := ax_vd (g := ax_g556) h True.intro rfl rfl rfl ax_q556
theorem ax_v557 {N : Nat} {sy : sx_Y} (h : ax_Sc N sy) : ax_Valid N sy ax_c557 := ax_vd (g := ax_g557) h True.intro rfl rfl rfl ax_q557
theorem ax_v558 {N : Nat} {sy : sx_Y} (h : ax_Sc N sy) : ax_Valid N sy ax_c558 := ax_vd (g := ax_g558) h True.intro rfl rfl rfl ax_q558
theorem ax_v559 {N : Nat} {sy : sx_Y} (h : ax_Sc N sy) : ax_Valid N sy ax_c559 := ax_vd (g := ax_g559) h True.intro rfl rfl rfl ax_q559
theorem ax_v560 {N : Nat} {sy : sx_Y} (h : ax_Sc N sy) : ax_Valid N sy ax_c560 := ax_vd (g := ax_g560) h True.intro rfl rfl rfl ax_q560
theorem ax_v561 {N : Nat} {sy : sx_Y} (h : ax_Sc N sy) : ax_Valid N sy ax_c561 := ax_vd (g := ax_g561) h True.intro rfl rfl rfl ax_q561
theorem ax_v562 {N : Nat} {sy : sx_Y} (h : ax_Sc N sy) : ax_Valid N sy ax_c562 := ax_vd (g := ax_g562) h True.intro rfl rfl rfl ax_q562
theorem ax_v563 {N : Nat} {sy : sx_Y} (h : ax_Sc N sy) : ax_Valid N sy ax_c563 := ax_vd (g := ax_g563) h True.intro rfl rfl rfl ax_q563
theorem ax_v564 {N : Nat} {sy : sx_Y} (h : ax_Sc N sy) : ax_Valid N sy ax_c564 := ax_vd (g := ax_g564) h True.intro rfl rfl rfl ax_q564
theorem ax_v565 {N : Nat} {sy : sx_Y} (h : ax_Sc N sy) : ax_Valid N sy ax_c565 := ax_vd (g := ax_g565) h True.intro rfl rfl rfl ax_q565
theorem ax_v566 {N : Nat} {sy : sx_Y} (h : ax_Sc N sy) : ax_Valid N sy ax_c566 := ax_vd (g := ax_g566) h True.intro rfl rfl rfl ax_q566
theorem ax_v567 {N : Nat} {sy : sx_Y} (h : ax_Sc N sy) : ax_Valid N sy ax_c567 := ax_vd (g := ax_g567) h True.intro rfl rfl rfl ax_q567
theorem ax_v568 {N : Nat} {sy : sx_Y} (h : ax_Sc N sy) : ax_Valid N sy ax_c568 := ax_vd (g := ax_g568) h True.intro rfl rfl rfl ax_q568
theorem ax_v569 {N : Nat} {sy : sx_Y} (h : ax_Sc N sy) : ax_Valid N sy ax_c569 := ax_vd (g := ax_g569) h True.intro rfl rfl rfl ax_q569
theorem ax_v570 {N : Nat} {sy : sx_Y} (h : ax_Sc N sy) : ax_Valid N sy ax_c570 := ax_vd (g := ax_g570) h True.intro rfl rfl rfl ax_q570
theorem ax_v571 {N : Nat} {sy : sx_Y} (h : ax_Sc N sy) : ax_Valid N sy ax_c571 := ax_vd (g := ax_g571) h True.intro rfl rfl rfl ax_q571
theorem ax_v572 {N : Nat} {sy : sx_Y} (h : ax_Sc N sy) : ax_Valid N sy ax_c572 := ax_vd (g := ax_g572) h True.intro rfl rfl rfl ax_q572
theorem ax_v573 {N : Nat} {sy : sx_Y} (h : ax_Sc N sy) : ax_Valid N sy ax_c573 := ax_vd (g := ax_g573) h True.intro rfl rfl rfl ax_q573
theorem ax_v574 {N : Nat} {sy : sx_Y} (h : ax_Sc N sy) : ax_Valid N sy ax_c574 := ax_vd (g := ax_g574) h True.intro rfl rfl rfl ax_q574
theorem ax_v575 {N : Nat} {sy : sx_Y} (h : ax_Sc N sy) : ax_Valid N sy ax_c575 := ax_vd (g := ax_g575) h True.intro rfl rfl rfl ax_q575
theorem ax_v576 {N : Nat} {sy : sx_Y} (h : ax_Sc N sy) : ax_Valid N sy ax_c576 := ax_vd (g := ax_g576) h True.intro rfl rfl rfl ax_q576
theorem ax_v577 {N : Nat} {sy : sx_Y} (h : ax_Sc N sy) : ax_Valid N sy ax_c577 := ax_vd (g := ax_g577) h True.intro rfl rfl rfl ax_q577
theorem ax_v578 {N : Nat} {sy : sx_Y} (h : ax_Sc N sy) : ax_Valid N sy ax_c578 := ax_vd (g := ax_g578) h True.intro rfl rfl rfl ax_q578
theorem ax_v579 {N : Nat} {sy : sx_Y} (h : ax_Sc N sy) : ax_Valid N sy ax_c579 := ax_vd (g := ax_g579) h True.intro rfl rfl rfl ax_q579
theorem ax_v580 {N : Nat} {sy : sx_Y} (h : ax_Sc N sy) : ax_Valid N sy ax_c580 := ax_vd (g := ax_g580) h True.intro rfl rfl rfl ax_q580
theorem ax_v581 {N : Nat} {sy : sx_Y} (h : ax_Sc N sy) : ax_Valid N sy ax_c581 := ax_vd (g := ax_g581) h True.intro rfl rfl rfl ax_q581
theorem ax_v582 {N : Nat} {sy : sx_Y} (h : ax_Sc N sy) : ax_Valid N sy ax_c582 := ax_vd (g := ax_g582) h True.intro rfl rfl rfl ax_q582
theorem ax_v583 {N : Nat} {sy : sx_Y} (h : ax_Sc N sy) : ax_Valid N sy ax_c583 := ax_vd (g := ax_g583) h True.intro rfl rfl rfl ax_q583
theorem ax_v584 {N : Nat} {sy : sx_Y} (h : ax_Sc N sy) : ax_Valid N sy ax_c584 := ax_vd (g := ax_g584) h True.intro rfl rfl rfl ax_q584
theorem ax_v585 {N : Nat} {sy : sx_Y} (h : ax_Sc N sy) : ax_Valid N sy ax_c585 := ax_vd (g := ax_g585) h True.intro rfl rfl rfl ax_q585
theorem ax_v586 {N : Nat} {sy : sx_Y} (h : ax_Sc N sy) : ax_Valid N sy ax_c586 := ax_vd (g := ax_g586) h True.intro rfl rfl rfl ax_q586
theorem ax_v587 {N : Nat} {sy : sx_Y} (h : ax_Sc N sy) : ax_Valid N sy ax_c587 := ax_vd (g := ax_g587) h True.intro rfl rfl rfl ax_q587
theorem ax_v588 {N : Nat} {sy : sx_Y} (h : ax_Sc N sy) : ax_Valid N sy ax_c588 := ax_vd (g := ax_g588) h True.intro rfl rfl rfl ax_q588
theorem ax_v589 {N : Nat} {sy : sx_Y} (h : ax_Sc N sy) : ax_Valid N sy ax_c589 := ax_vd (g := ax_g589) h True.intro rfl rfl rfl ax_q589
theorem ax_v590 {N : Nat} {sy : sx_Y} (h : ax_Sc N sy) : ax_Valid N sy ax_c590 := ax_vd (g := ax_g590) h True.intro rfl rfl rfl ax_q590
theorem ax_v591 {N : Nat} {sy : sx_Y} (h : ax_Sc N sy) : ax_Valid N sy ax_c591 := ax_vd (g := ax_g591) h True.intro rfl rfl rfl ax_q591
theorem ax_v592 {N : Nat} {sy : sx_Y} (h : ax_Sc N sy) : ax_Valid N sy ax_c592 := ax_vd (g := ax_g592) h True.intro rfl rfl rfl ax_q592
theorem ax_v593 {N : Nat} {sy : sx_Y} (h : ax_Sc N sy) : ax_Valid N sy ax_c593 := ax_vd (g := ax_g593) h True.intro rfl rfl rfl ax_q593
theorem ax_v594 {N : Nat} {sy : sx_Y} (h : ax_Sc N sy) : ax_Valid N sy ax_c594 := ax_vd (g := ax_g594) h True.intro rfl rfl rfl ax_q594
theorem ax_v595 {N : Nat} {sy : sx_Y} (h : ax_Sc N sy) : ax_Valid N sy ax_c595 := ax_vd (g := ax_g595) h True.intro rfl rfl rfl ax_q595
theorem ax_v596 {N : Nat} {sy : sx_Y} (h : ax_Sc N sy) : ax_Valid N sy ax_c596 := ax_vd (g := ax_g596) h True.intro rfl rfl rfl ax_q596
theorem ax_v597 {N : Nat} {sy : sx_Y} (h : ax_Sc N sy) : ax_Valid N sy ax_c597 := ax_vd (g := ax_g597) h True.intro rfl rfl rfl ax_q597
theorem ax_v598 {N : Nat} {sy : sx_Y} (h : ax_Sc N sy) : ax_Valid N sy ax_c598 := ax_vd (g := ax_g598) h True.intro rfl rfl rfl ax_q598
theorem ax_v599 {N : Nat} {sy : sx_Y} (h : ax_Sc N sy) : ax_Valid N sy ax_c599 := ax_vd (g := ax_g599) h True.intro rfl rfl rfl ax_q599
theorem ax_v600 {N : Nat} {sy : sx_Y} (h : ax_Sc N sy) : ax_Valid N sy ax_c600 := ax_vd (g := ax_g600) h True.intro rfl rfl rfl ax_q600
theorem ax_v601 {N : Nat} {sy : sx_Y} (h : ax_Sc N sy) : ax_Valid N sy ax_c601 := ax_vd (g := ax_g601) h True.intro rfl rfl rfl ax_q601
theorem ax_v602 {N : Nat} {sy : sx_Y} (h : ax_Sc N sy) : ax_Valid N sy ax_c602 := ax_vd (g := ax_g602) h True.intro rfl rfl rfl ax_q602
theorem ax_v603 {N : Nat} {sy : sx_Y} (h : ax_Sc N sy) : ax_Valid N sy ax_c603 := ax_vd (g := ax_g603) h True.intro rfl rfl rfl ax_q603
theorem ax_v604 {N : Nat} {sy : sx_Y} (h : ax_Sc N sy) : ax_Valid N sy ax_c604 := ax_vd (g := ax_g604) h True.intro rfl rfl rfl ax_q604
theorem ax_v605 {N : Nat} {sy : sx_Y} (h : ax_Sc N sy) : ax_Valid N sy ax_c605 := ax_vd (g := ax_g605) h True.intro rfl rfl rfl ax_q605
theorem ax_v606 {N : Nat} {sy : sx_Y} (h : ax_Sc N sy) : ax_Valid N sy ax_c606 := ax_vd (g := ax_g606) h True.intro rfl rfl rfl ax_q606
theorem ax_v607 {N : Nat} {sy : sx_Y} (h : ax_Sc N sy) : ax_Valid N sy ax_c607 := ax_vd (g := ax_g607) h True.intro rfl rfl rfl ax_q607
theorem ax_v608 {N : Nat} {sy : sx_Y} (h : ax_Sc N sy) : ax_Valid N sy ax_c608 := ax_vd (g := ax_g608) h True.intro rfl rfl rfl ax_q608
theorem ax_v609 {N : Nat} {sy : sx_Y} (h : ax_Sc N sy) : ax_Valid N sy ax_c609 := ax_vd (g := ax_g609) h True.intro rfl rfl rfl ax_q609
theorem ax_v610 {N : Nat} {sy : sx_Y} (h : ax_Sc N sy) : ax_Valid N sy ax_c610 := ax_vd (g := ax_g610) h True.intro rfl rfl rfl ax_q610
theorem ax_v611 {N : Nat} {sy : sx_Y} (h : ax_Sc N sy) : ax_Valid N sy ax_c611 := ax_vd (g := ax_g611) h True.intro rfl rfl rfl ax_q611
theorem ax_v612 {N : Nat} {sy : sx_Y} (h : ax_Sc N sy) : ax_Valid N sy ax_c612 := ax_vd (g := ax_g612) h True.intro rfl rfl rfl ax_q612
theorem ax_v613 {N : Nat} {sy : sx_Y} (h : ax_Sc N sy) : ax_Valid N sy ax_c613 := ax_vd (g := ax_g613) h True.intro rfl rfl rfl ax_q613
theorem ax_v614 {N : Nat} {sy : sx_Y} (h : ax_Sc N sy) : ax_Valid N sy ax_c614 := ax_vd (g := ax_g614) h True.intro rfl rfl rfl ax_q614
theorem ax_v615 {N : Nat} {sy : sx_Y} (h : ax_Sc N sy) : ax_Valid N sy ax_c615 := ax_vd (g := ax_g615) h True.intro rfl rfl rfl ax_q615
theorem ax_v616 {N : Nat} {sy : sx_Y} (h : ax_Sc N sy) : ax_Valid N sy ax_c616 := ax_vd (g := ax_g616) h True.intro rfl rfl rfl ax_q616
theorem ax_v617 {N : Nat} {sy : sx_Y} (h : ax_Sc N sy) : ax_Valid N sy ax_c617 := ax_vd (g := ax_g617) h True.intro rfl rfl rfl ax_q617
theorem ax_v618 {N : Nat} {sy : sx_Y} (h : ax_Sc N sy) : ax_Valid N sy ax_c618 := ax_vd (g := ax_g618) h True.intro rfl rfl rfl ax_q618
theorem ax_v619 {N : Nat} {sy : sx_Y} (h : ax_Sc N sy) : ax_Valid N sy ax_c619 := ax_vd (g := ax_g619) h True.intro rfl rfl rfl ax_q619
theorem ax_v620 {N : Nat} {sy : sx_Y} (h : ax_Sc N sy) : ax_Valid N sy ax_c620 := ax_vd (g := ax_g620) h True.intro rfl rfl rfl ax_q620
theorem ax_v621 {N : Nat} {sy : sx_Y} (h : ax_Sc N sy) : ax_Valid N sy ax_c621 := ax_vd (g := ax_g621) h True.intro rfl rfl rfl ax_q621
theorem ax_v622 {N : Nat} {sy : sx_Y} (h : ax_Sc N sy) : ax_Valid N sy ax_c622 := ax_vd (g := ax_g622) h True.intro rfl rfl rfl ax_q622
theorem ax_v623 {N : Nat} {sy : sx_Y} (h : ax_Sc N sy) : ax_Valid N sy ax_c623 := ax_vd (g := ax_g623) h True.intro rfl rfl rfl ax_q623
theorem ax_v624 {N : Nat} {sy : sx_Y} (h : ax_Sc N sy) : ax_Valid N sy ax_c624 := ax_vd (g := ax_g624) h True.intro rfl rfl rfl ax_q624
theorem ax_v625 {N : Nat} {sy : sx_Y} (h : ax_Sc N sy) : ax_Valid N sy ax_c625 := ax_vd (g := ax_g625) h True.intro rfl rfl rfl ax_q625
theorem ax_v626 {N : Nat} {sy : sx_Y} (h : ax_Sc N sy) : ax_Valid N sy ax_c626 := ax_vd (g := ax_g626) h True.intro rfl rfl rfl ax_q626
theorem ax_v627 {N : Nat} {sy : sx_Y} (h : ax_Sc N sy) : ax_Valid N sy ax_c627 := ax_vd (g := ax_g627) h True.intro rfl rfl rfl ax_q627
theorem ax_v628 {N : Nat} {sy : sx_Y} (h : ax_Sc N sy) : ax_Valid N sy ax_c628 := ax_vd (g := ax_g628) h True.intro rfl rfl rfl ax_q628
theorem ax_v629 {N : Nat} {sy : sx_Y} (h : ax_Sc N sy) : ax_Valid N sy ax_c629 := ax_vd (g := ax_g629) h True.intro rfl rfl rfl ax_q629
theorem ax_v630 {N : Nat} {sy : sx_Y} (h : ax_Sc N sy) : ax_Valid N sy ax_c630 := ax_vd (g := ax_g630) h True.intro rfl rfl rfl ax_q630
theorem ax_v631 {N : Nat} {sy : sx_Y} (h : ax_Sc N sy) : ax_Valid N sy ax_c631 := ax_vd (g := ax_g631) h True.intro rfl rfl rfl ax_q631
theorem ax_v632 {N : Nat} {sy : sx_Y} (h : ax_Sc N sy) : ax_Valid N sy ax_c632 := ax_vd (g := ax_g632) h True.intro rfl rfl rfl ax_q632
theorem ax_v633 {N : Nat} {sy : sx_Y} (h : ax_Sc N sy) : ax_Valid N sy ax_c633 := ax_vd (g := ax_g633) h True.intro rfl rfl rfl ax_q633
theorem ax_v634 {N : Nat} {sy : sx_Y} (h : ax_Sc N sy) : ax_Valid N sy ax_c634 := ax_vd (g := ax_g634) h True.intro rfl rfl rfl ax_q634
theorem ax_v635 {N : Nat} {sy : sx_Y} (h : ax_Sc N sy) : ax_Valid N sy ax_c635 := ax_vd (g := ax_g635) h True.intro rfl rfl rfl ax_q635
theorem ax_v636 {N : Nat} {sy : sx_Y} (h : ax_Sc N sy) : ax_Valid N sy ax_c636 := ax_vd (g := ax_g636) h True.intro rfl rfl rfl ax_q636
theorem ax_v637 {N : Nat} {sy : sx_Y} (h : ax_Sc N sy) : ax_Valid N sy ax_c637 := ax_vd (g := ax_g637) h True.intro rfl rfl rfl ax_q637
theorem ax_v638 {N : Nat} {sy : sx_Y} (h : ax_Sc N sy) : ax_Valid N sy ax_c638 := ax_vd (g := ax_g638) h True.intro rfl rfl rfl ax_q638
theorem ax_v639 {N : Nat} {sy : sx_Y} (h : ax_Sc N sy) : ax_Valid N sy ax_c639 := ax_vd (g := ax_g639) h True.intro rfl rfl rfl ax_q639
theorem ax_v640 {N : Nat} {sy : sx_Y} (h : ax_Sc N sy) : ax_Valid N sy ax_c640 := ax_vd (g := ax_g640) h True.intro rfl rfl rfl ax_q640
theorem ax_v641 {N : Nat} {sy : sx_Y} (h : ax_Sc N sy) : ax_Valid N sy ax_c641 := ax_vd (g := ax_g641) h True.intro rfl rfl rfl ax_q641
theorem ax_v642 {N : Nat} {sy : sx_Y} (h : ax_Sc N sy) : ax_Valid N sy ax_c642 := ax_vd (g := ax_g642) h True.intro rfl rfl rfl ax_q642
theorem ax_v643 {N : Nat} {sy : sx_Y} (h : ax_Sc N sy) : ax_Valid N sy ax_c643 := ax_vd (g := ax_g643) h True.intro rfl rfl rfl ax_q643
theorem ax_v644 {N : Nat} {sy : sx_Y} (h : ax_Sc N sy) : ax_Valid N sy ax_c644 := ax_vd (g := ax_g644) h True.intro rfl rfl rfl ax_q644
theorem ax_v645 {N : Nat} {sy : sx_Y} (h : ax_Sc N sy) : ax_Valid N sy ax_c645 := ax_vd (g := ax_g645) h True.intro rfl rfl rfl ax_q645
theorem ax_v646 {N : Nat} {sy : sx_Y} (h : ax_Sc N sy) : ax_Valid N sy ax_c646 := ax_vd (g := ax_g646) h True.intro rfl rfl rfl ax_q646
theorem ax_v647 {N : Nat} {sy : sx_Y} (h : ax_Sc N sy) : ax_Valid N sy ax_c647 := ax_vd (g := ax_g647) h True.intro rfl rfl rfl ax_q647
theorem ax_v648 {N : Nat} {sy : sx_Y} (h : ax_Sc N sy) : ax_Valid N sy ax_c648 := ax_vd (g := ax_g648) h True.intro rfl rfl rfl ax_q648
theorem ax_v649 {N : Nat} {sy : sx_Y} (h : ax_Sc N sy) : ax_Valid N sy ax_c649 := ax_vd (g := ax_g649) h True.intro rfl rfl rfl ax_q649
theorem ax_v650 {N : Nat} {sy : sx_Y} (h : ax_Sc N sy) : ax_Valid N sy ax_c650 := ax_vd (g := ax_g650) h True.intro rfl rfl rfl ax_q650
theorem ax_v651 {N : Nat} {sy : sx_Y} (h : ax_Sc N sy) : ax_Valid N sy ax_c651 := ax_vd (g := ax_g651) h True.intro rfl rfl rfl ax_q651
theorem ax_v652 {N : Nat} {sy : sx_Y} (h : ax_Sc N sy) : ax_Valid N sy ax_c652 := ax_vd (g := ax_g652) h True.intro rfl rfl rfl ax_q652
theorem ax_v653 {N : Nat} {sy : sx_Y} (h : ax_Sc N sy) : ax_Valid N sy ax_c653 := ax_vd (g := ax_g653) h True.intro rfl rfl rfl ax_q653
theorem ax_v654 {N : Nat} {sy : sx_Y} (h : ax_Sc N sy) : ax_Valid N sy ax_c654 := ax_vd (g := ax_g654) h True.intro rfl rfl rfl ax_q654
theorem ax_v655 {N : Nat} {sy : sx_Y} (h : ax_Sc N sy) : ax_Valid N sy ax_c655 := ax_vd (g := ax_g655) h True.intro rfl rfl rfl ax_q655
theorem ax_v656 {N : Nat} {sy : sx_Y} (h : ax_Sc N sy) : ax_Valid N sy ax_c656 := ax_vd (g := ax_g656) h True.intro rfl rfl rfl ax_q656
theorem ax_v657 {N : Nat} {sy : sx_Y} (h : ax_Sc N sy) : ax_Valid N sy ax_c657 := ax_vd (g := ax_g657) h True.intro rfl rfl rfl ax_q657
theorem ax_v658 {N : Nat} {sy : sx_Y} (h : ax_Sc N sy) : ax_Valid N sy ax_c658 := ax_vd (g := ax_g658) h True.intro rfl rfl rfl ax_q658
theorem ax_v659 {N : Nat} {sy : sx_Y} (h : ax_Sc N sy) : ax_Valid N sy ax_c659 := ax_vd (g := ax_g659) h True.intro rfl rfl rfl ax_q659
theorem ax_v660 {N : Nat} {sy : sx_Y} (h : ax_Sc N sy) : ax_Valid N sy ax_c660 := ax_vd (g := ax_g660) h True.intro rfl rfl rfl ax_q660
theorem ax_v661 {N : Nat} {sy : sx_Y} (h : ax_Sc N sy) : ax_Valid N sy ax_c661 := ax_vd (g := ax_g661) h True.intro rfl rfl rfl ax_q661
theorem ax_v662 {N : Nat} {sy : sx_Y} (h : ax_Sc N sy) : ax_Valid N sy ax_c662 := ax_vd (g := ax_g662) h True.intro rfl rfl rfl ax_q662
theorem ax_v663 {N : Nat} {sy : sx_Y} (h : ax_Sc N sy) : ax_Valid N sy ax_c663 := ax_vd (g := ax_g663) h True.intro rfl rfl rfl ax_q663
theorem ax_v664 {N : Nat} {sy : sx_Y} (h : ax_Sc N sy) : ax_Valid N sy ax_c664 := ax_vd (g := ax_g664) h True.intro rfl rfl rfl ax_q664
theorem ax_v665 {N : Nat} {sy : sx_Y} (h : ax_Sc N sy) : ax_Valid N sy ax_c665 := ax_vd (g := ax_g665) h True.intro rfl rfl rfl ax_q665
theorem ax_v666 {N : Nat} {sy : sx_Y} (h : ax_Sc N sy) : ax_Valid N sy ax_c666 := ax_vd (g := ax_g666) h True.intro rfl rfl rfl ax_q666
theorem ax_v667 {N : Nat} {sy : sx_Y} (h : ax_Sc N sy) : ax_Valid N sy ax_c667 := ax_vd (g := ax_g667) h True.intro rfl rfl rfl ax_q667
theorem ax_v668 {N : Nat} {sy : sx_Y} (h : ax_Sc N sy) : ax_Valid N sy ax_c668 := ax_vd (g := ax_g668) h True.intro rfl rfl rfl ax_q668
theorem ax_v669 {N : Nat} {sy : sx_Y} (h : ax_Sc N sy) : ax_Valid N sy ax_c669 := ax_vd (g := ax_g669) h True.intro rfl rfl rfl ax_q669
theorem ax_v670 {N : Nat} {sy : sx_Y} (h : ax_Sc N sy) : ax_Valid N sy ax_c670 := ax_vd (g := ax_g670) h True.intro rfl rfl rfl ax_q670
theorem ax_v671 {N : Nat} {sy : sx_Y} (h : ax_Sc N sy) : ax_Valid N sy ax_c671 := ax_vd (g := ax_g671) h True.intro rfl rfl rfl ax_q671
theorem ax_v672 {N : Nat} {sy : sx_Y} (h : ax_Sc N sy) : ax_Valid N sy ax_c672 := ax_vd (g := ax_g672) h True.intro rfl rfl rfl ax_q672
theorem ax_v673 {N : Nat} {sy : sx_Y} (h : ax_Sc N sy) : ax_Valid N sy ax_c673 := ax_vd (g := ax_g673) h True.intro rfl rfl rfl ax_q673
theorem ax_v674 {N : Nat} {sy : sx_Y} (h : ax_Sc N sy) : ax_Valid N sy ax_c674 := ax_vd (g := ax_g674) h True.intro rfl rfl rfl ax_q674
theorem ax_v675 {N : Nat} {sy : sx_Y} (h : ax_Sc N sy) : ax_Valid N sy ax_c675 := ax_vd (g := ax_g675) h True.intro rfl rfl rfl ax_q675
theorem ax_v676 {N : Nat} {sy : sx_Y} (h : ax_Sc N sy) : ax_Valid N sy ax_c676 := ax_vd (g := ax_g676) h True.intro rfl rfl rfl ax_q676
theorem ax_v677 {N : Nat} {sy : sx_Y} (h : ax_Sc N sy) : ax_Valid N sy ax_c677 := ax_vd (g := ax_g677) h True.intro rfl rfl rfl ax_q677
theorem ax_v678 {N : Nat} {sy : sx_Y} (h : ax_Sc N sy) : ax_Valid N sy ax_c678 := ax_vd (g := ax_g678) h True.intro rfl rfl rfl ax_q678
theorem ax_v679 {N : Nat} {sy : sx_Y} (h : ax_Sc N sy) : ax_Valid N sy ax_c679 := ax_vd (g := ax_g679) h True.intro rfl rfl rfl ax_q679
theorem ax_v680 {N : Nat} {sy : sx_Y} (h : ax_Sc N sy) : ax_Valid N sy ax_c680 := ax_vd (g := ax_g680) h True.intro rfl rfl rfl ax_q680
theorem ax_v681 {N : Nat} {sy : sx_Y} (h : ax_Sc N sy) : ax_Valid N sy ax_c681 := ax_vd (g := ax_g681) h True.intro rfl rfl rfl ax_q681
theorem ax_v682 {N : Nat} {sy : sx_Y} (h : ax_Sc N sy) : ax_Valid N sy ax_c682 := ax_vd (g := ax_g682) h True.intro rfl rfl rfl ax_q682
theorem ax_v683 {N : Nat} {sy : sx_Y} (h : ax_Sc N sy) : ax_Valid N sy ax_c683 := ax_vd (g := ax_g683) h True.intro rfl rfl rfl ax_q683
theorem ax_v684 {N : Nat} {sy : sx_Y} (h : ax_Sc N sy) : ax_Valid N sy ax_c684 := ax_vd (g := ax_g684) h True.intro rfl rfl rfl ax_q684
theorem ax_v685 {N : Nat} {sy : sx_Y} (h : ax_Sc N sy) : ax_Valid N sy ax_c685 := ax_vd (g := ax_g685) h True.intro rfl rfl rfl ax_q685
theorem ax_v686 {N : Nat} {sy : sx_Y} (h : ax_Sc N sy) : ax_Valid N sy ax_c686 := ax_vd (g := ax_g686) h True.intro rfl rfl rfl ax_q686
theorem ax_v687 {N : Nat} {sy : sx_Y} (h : ax_Sc N sy) : ax_Valid N sy ax_c687 := ax_vd (g := ax_g687) h True.intro rfl rfl rfl ax_q687
theorem ax_v688 {N : Nat} {sy : sx_Y} (h : ax_Sc N sy) : ax_Valid N sy ax_c688 := ax_vd (g := ax_g688) h True.intro rfl rfl rfl ax_q688
theorem ax_v689 {N : Nat} {sy : sx_Y} (h : ax_Sc N sy) : ax_Valid N sy ax_c689 := ax_vd (g := ax_g689) h True.intro rfl rfl rfl ax_q689
theorem ax_v690 {N : Nat} {sy : sx_Y} (h : ax_Sc N sy) : ax_Valid N sy ax_c690 := ax_vd (g := ax_g690) h True.intro rfl rfl rfl ax_q690
theorem ax_v691 {N : Nat} {sy : sx_Y} (h : ax_Sc N sy) : ax_Valid N sy ax_c691 := ax_vd (g := ax_g691) h True.intro rfl rfl rfl ax_q691
theorem ax_v692 {N : Nat} {sy : sx_Y} (h : ax_Sc N sy) : ax_Valid N sy ax_c692 := ax_vd (g := ax_g692) h True.intro rfl rfl rfl ax_q692
theorem ax_v693 {N : Nat} {sy : sx_Y} (h : ax_Sc N sy) : ax_Valid N sy ax_c693 := ax_vd (g := ax_g693) h True.intro rfl rfl rfl ax_q693
theorem ax_v694 {N : Nat} {sy : sx_Y} (h : ax_Sc N sy) : ax_Valid N sy ax_c694 := ax_vd (g := ax_g694) h True.intro rfl rfl rfl ax_q694
theorem ax_v695 {N : Nat} {sy : sx_Y} (h : ax_Sc N sy) : ax_Valid N sy ax_c695 := ax_vd (g := ax_g695) h True.intro rfl rfl rfl ax_q695
theorem ax_v696 {N : Nat} {sy : sx_Y} (h : ax_Sc N sy) : ax_Valid N sy ax_c696 := ax_vd (g := ax_g696) h True.intro rfl rfl rfl ax_q696
theorem ax_v697 {N : Nat} {sy : sx_Y} (h : ax_Sc N sy) : ax_Valid N sy ax_c697 := ax_vd (g := ax_g697) h True.intro rfl rfl rfl ax_q697
theorem ax_v698 {N : Nat} {sy : sx_Y} (h : ax_Sc N sy) : ax_Valid N sy ax_c698 := ax_vd (g := ax_g698) h True.intro rfl rfl rfl ax_q698
theorem ax_v699 {N : Nat} {sy : sx_Y} (h : ax_Sc N sy) : ax_Valid N sy ax_c699 := ax_vd (g := ax_g699) h True.intro rfl rfl rfl ax_q699
theorem ax_v700 {N : Nat} {sy : sx_Y} (h : ax_Sc N sy) : ax_Valid N sy ax_c700 := ax_vd (g := ax_g700) h True.intro rfl rfl rfl ax_q700
theorem ax_v701 {N : Nat} {sy : sx_Y} (h : ax_Sc N sy) : ax_Valid N sy ax_c701 := ax_vd (g := ax_g701) h True.intro rfl rfl rfl ax_q701
theorem ax_v702 {N : Nat} {sy : sx_Y} (h : ax_Sc N sy) : ax_Valid N sy ax_c702 := ax_vd (g := ax_g702) h True.intro rfl rfl rfl ax_q702
theorem ax_v703 {N : Nat} {sy : sx_Y} (h : ax_Sc N sy) : ax_Valid N sy ax_c703 := ax_vd (g := ax_g703) h True.intro rfl rfl rfl ax_q703
theorem ax_v704 {N : Nat} {sy : sx_Y} (h : ax_Sc N sy) : ax_Valid N sy ax_c704 := ax_vd (g := ax_g704) h True.intro rfl rfl rfl ax_q704
theorem ax_v705 {N : Nat} {sy : sx_Y} (h : ax_Sc N sy) : ax_Valid N sy ax_c705 := ax_vd (g := ax_g705) h True.intro rfl rfl rfl ax_q705
theorem ax_v706 {N : Nat} {sy : sx_Y} (h : ax_Sc N sy) : ax_Valid N sy ax_c706 := ax_vd (g := ax_g706) h True.intro rfl rfl rfl ax_q706
theorem ax_v707 {N : Nat} {sy : sx_Y} (h : ax_Sc N sy) : ax_Valid N sy ax_c707 := ax_vd (g := ax_g707) h True.intro rfl rfl rfl ax_q707
theorem ax_v708 {N : Nat} {sy : sx_Y} (h : ax_Sc N sy) : ax_Valid N sy ax_c708 := ax_vd (g := ax_g708) h True.intro rfl rfl rfl ax_q708
theorem ax_v709 {N : Nat} {sy : sx_Y} (h : ax_Sc N sy) : ax_Valid N sy ax_c709 := ax_vd (g := ax_g709) h True.intro rfl rfl rfl ax_q709
theorem ax_v710 {N : Nat} {sy : sx_Y} (h : ax_Sc N sy) : ax_Valid N sy ax_c710 := ax_vd (g := ax_g710) h True.intro rfl rfl rfl ax_q710
theorem ax_v711 {N : Nat} {sy : sx_Y} (h : ax_Sc N sy) : ax_Valid N sy ax_c711 := ax_vd (g := ax_g711) h True.intro rfl rfl rfl ax_q711
theorem ax_v712 {N : Nat} {sy : sx_Y} (h : ax_Sc N sy) : ax_Valid N sy ax_c712 := ax_vd (g := ax_g712) h True.intro rfl rfl rfl ax_q712
theorem ax_v713 {N : Nat} {sy : sx_Y} (h : ax_Sc N sy) : ax_Valid N sy ax_c713 := ax_vd (g := ax_g713) h True.intro rfl rfl rfl ax_q713
theorem ax_v714 {N : Nat} {sy : sx_Y} (h : ax_Sc N sy) : ax_Valid N sy ax_c714 := ax_vd (g := ax_g714) h True.intro rfl rfl rfl ax_q714
theorem ax_v715 {N : Nat} {sy : sx_Y} (h : ax_Sc N sy) : ax_Valid N sy ax_c715 := ax_vd (g := ax_g715) h True.intro rfl rfl rfl ax_q715
theorem ax_v716 {N : Nat} {sy : sx_Y} (h : ax_Sc N sy) : ax_Valid N sy ax_c716 := ax_vd (g := ax_g716) h ⟨⟨ax_v205 h, ⟨ax_v206 h, ⟨ax_v208 h, ⟨ax_v210 h, ⟨ax_v212 h, ⟨ax_v214 h, ⟨ax_v216 h, ⟨ax_v218 h, ⟨ax_v220 h, ⟨ax_v222 h, ⟨ax_v224 h, ⟨ax_v226 h, ⟨ax_v228 h, ⟨ax_v230 h, ⟨ax_v232 h, ⟨ax_v234 h, ⟨ax_v236 h, ⟨ax_v238 h, ⟨ax_v240 h, ⟨ax_v242 h, ⟨ax_v244 h, ⟨ax_v246 h, ⟨ax_v248 h, ⟨ax_v250 h, ⟨ax_v252 h, ⟨ax_v254 h, ⟨ax_v256 h, ⟨ax_v258 h, ⟨ax_v260 h, ⟨ax_v262 h, ⟨ax_v264 h, ⟨ax_v266 h, ⟨ax_v268 h, ⟨ax_v270 h, ⟨ax_v272 h, ⟨ax_v274 h, ⟨ax_v276 h, ⟨ax_v278 h, ⟨ax_v280 h, ⟨ax_v282 h, ⟨ax_v284 h, ⟨ax_v286 h, ⟨ax_v288 h, ⟨ax_v290 h, ⟨ax_v292 h, ⟨ax_v294 h, ⟨ax_v296 h, ⟨ax_v298 h, ⟨ax_v300 h, ⟨ax_v302 h, ⟨ax_v304 h, ⟨ax_v306 h, ⟨ax_v308 h, ⟨ax_v310 h, ⟨ax_v312 h, ⟨ax_v314 h, ⟨ax_v316 h, ⟨ax_v318 h, ⟨ax_v320 h, ⟨ax_v322 h, ⟨ax_v324 h, ⟨ax_v326 h, ⟨ax_v328 h, ⟨ax_v330 h, ⟨ax_v332 h, ⟨ax_v334 h, ⟨ax_v336 h, ⟨ax_v338 h, ⟨ax_v340 h, ⟨ax_v342 h, ⟨ax_v344 h, ⟨ax_v346 h, ⟨ax_v348 h, ⟨ax_v350 h, ⟨ax_v352 h, ⟨ax_v354 h, ⟨ax_v356 h, ⟨ax_v358 h, ⟨ax_v360 h, ⟨ax_v362 h, ⟨ax_v364 h, ⟨ax_v366 h, ⟨ax_v368 h, ⟨ax_v370 h, ⟨ax_v372 h, ⟨ax_v374 h, ⟨ax_v376 h, ⟨ax_v378 h, ⟨ax_v380 h, ⟨ax_v382 h, ⟨ax_v384 h, ⟨ax_v386 h, ⟨ax_v388 h, ⟨ax_v390 h, ⟨ax_v392 h, ⟨ax_v394 h, ⟨ax_v396 h, ⟨ax_v398 h, ⟨ax_v400 h, ⟨ax_v402 h, ⟨ax_v404 h, ⟨ax_v406 h, ⟨ax_v408 h, ⟨ax_v410 h, ⟨ax_v412 h, ⟨ax_v414 h, ⟨ax_v416 h, ⟨ax_v418 h, ⟨ax_v420 h, ⟨ax_v422 h, ⟨ax_v424 h, ⟨ax_v426 h, ⟨ax_v428 h, ⟨ax_v430 h, ⟨ax_v432 h, ⟨ax_v434 h, ⟨ax_v436 h, ⟨ax_v438 h, ⟨ax_v440 h, ⟨ax_v442 h, ⟨ax_v444 h, ⟨ax_v446 h, ⟨ax_v448 h, ⟨ax_v450 h, ⟨ax_v452 h, ⟨ax_v454 h, ⟨ax_v456 h, ⟨ax_v458 h, ⟨ax_v460 h, ⟨ax_v462 h, ⟨ax_v464 h, ⟨ax_v466 h, ⟨ax_v468 h, ⟨ax_v470 h, ⟨ax_v472 h, ⟨ax_v474 h, ⟨ax_v476 h, ⟨ax_v478 h, ⟨ax_v480 h, ⟨ax_v482 h, ⟨ax_v484 h, ⟨ax_v486 h, ⟨ax_v488 h, ⟨ax_v490 h, ⟨ax_v492 h, ⟨ax_v494 h, ⟨ax_v496 h, ⟨ax_v498 h, ⟨ax_v500 h, ⟨ax_v502 h, ⟨ax_v504 h, ⟨ax_v506 h, ⟨ax_v508 h, ⟨ax_v510 h, ⟨ax_v512 h, ⟨ax_v514 h, ⟨ax_v516 h, ⟨ax_v518 h, ⟨ax_v520 h, ⟨ax_v522 h, ⟨ax_v524 h, ⟨ax_v526 h, ⟨ax_v528 h, ⟨ax_v530 h, ⟨ax_v532 h, ⟨ax_v534 h, ⟨ax_v536 h, ⟨ax_v538 h, ⟨ax_v540 h, ⟨ax_v542 h, ⟨ax_v544 h, ⟨ax_v546 h, ⟨ax_v548 h, ⟨ax_v550 h, ⟨ax_v552 h, ⟨ax_v554 h, ⟨ax_v556 h, ⟨ax_v558 h, ⟨ax_v560 h, ⟨ax_v562 h, ⟨ax_v564 h, ⟨ax_v566 h, ⟨ax_v568 h, ⟨ax_v570 h, ⟨ax_v572 h, ⟨ax_v574 h, ⟨ax_v576 h, ⟨ax_v578 h, ⟨ax_v580 h, ⟨ax_v582 h, ⟨ax_v584 h, ⟨ax_v586 h, ⟨ax_v588 h, ⟨ax_v590 h, ⟨ax_v592 h, ⟨ax_v594 h, ⟨ax_v596 h, ⟨ax_v598 h, ⟨ax_v600 h, ⟨ax_v602 h, ⟨ax_v604 h, ⟨ax_v606 h, ⟨ax_v608 h, ⟨ax_v610 h, ⟨ax_v612 h, ⟨ax_v614 h, ⟨ax_v616 h, ⟨ax_v618 h, ⟨ax_v620 h, ⟨ax_v622 h, ⟨ax_v624 h, ⟨ax_v626 h, ⟨ax_v628 h, ⟨ax_v630 h, ⟨ax_v632 h, ⟨ax_v634 h, ⟨ax_v636 h, ⟨ax_v638 h, ⟨ax_v640 h, ⟨ax_v642 h, ⟨ax_v644 h, ⟨ax_v646 h, ⟨ax_v648 h, ⟨ax_v650 h, ⟨ax_v652 h, ⟨ax_v654 h, ⟨ax_v656 h, ⟨ax_v658 h, ⟨ax_v660 h, ⟨ax_v662 h, ⟨ax_v664 h, ⟨ax_v666 h, ⟨ax_v668 h, ⟨ax_v670 h, ⟨ax_v672 h, ⟨ax_v674 h, ⟨ax_v676 h, ⟨ax_v678 h, ⟨ax_v680 h, ⟨ax_v682 h, ⟨ax_v684 h, ⟨ax_v686 h, ⟨ax_v688 h, ⟨ax_v690 h, ⟨ax_v692 h, ⟨ax_v694 h, ⟨ax_v696 h, ⟨ax_v698 h, ⟨ax_v700 h, ⟨ax_v702 h, ⟨ax_v704 h, ⟨ax_v706 h, ⟨ax_v708 h, ⟨ax_v710 h, ⟨ax_v712 h, ⟨ax_v714 h, True.intro⟩⟩⟩⟩⟩⟩⟩⟩⟩⟩⟩⟩⟩⟩⟩⟩⟩⟩⟩⟩⟩⟩⟩⟩⟩⟩⟩⟩⟩⟩⟩⟩⟩⟩⟩⟩⟩⟩⟩⟩⟩⟩⟩⟩⟩⟩⟩⟩⟩⟩⟩⟩⟩⟩⟩⟩⟩⟩⟩⟩⟩⟩⟩⟩⟩⟩⟩⟩⟩⟩⟩⟩⟩⟩⟩⟩⟩⟩⟩⟩⟩⟩⟩⟩⟩⟩⟩⟩⟩⟩⟩⟩⟩⟩⟩⟩⟩⟩⟩⟩⟩⟩⟩⟩⟩⟩⟩⟩⟩⟩⟩⟩⟩⟩⟩⟩⟩⟩⟩⟩⟩⟩⟩⟩⟩⟩⟩⟩⟩⟩⟩⟩⟩⟩⟩⟩⟩⟩⟩⟩⟩⟩⟩⟩⟩⟩⟩⟩⟩⟩⟩⟩⟩⟩⟩⟩⟩⟩⟩⟩⟩⟩⟩⟩⟩⟩⟩⟩⟩⟩⟩⟩⟩⟩⟩⟩⟩⟩⟩⟩⟩⟩⟩⟩⟩⟩⟩⟩⟩⟩⟩⟩⟩⟩⟩⟩⟩⟩⟩⟩⟩⟩⟩⟩⟩⟩⟩⟩⟩⟩⟩⟩⟩⟩⟩⟩⟩⟩⟩⟩⟩⟩⟩⟩⟩⟩⟩⟩⟩⟩⟩⟩⟩⟩⟩⟩⟩⟩⟩⟩⟩⟩⟩⟩⟩⟩⟩⟩⟩⟩⟩⟩⟩⟩⟩⟩, ⟨⟨ax_v207 h, ⟨ax_v209 h, ⟨ax_v211 h, ⟨ax_v213 h, ⟨ax_v215 h, ⟨ax_v217 h, ⟨ax_v219 h, ⟨ax_v221 h, ⟨ax_v223 h, ⟨ax_v225 h, ⟨ax_v227 h, ⟨ax_v229 h, ⟨ax_v231 h, ⟨ax_v233 h, ⟨ax_v235 h, ⟨ax_v237 h, ⟨ax_v239 h, ⟨ax_v241 h, ⟨ax_v243 h, ⟨ax_v245 h, ⟨ax_v247 h, ⟨ax_v249 h, ⟨ax_v251 h, ⟨ax_v253 h, ⟨ax_v255 h, ⟨ax_v257 h, ⟨ax_v259 h, ⟨ax_v261 h, ⟨ax_v263 h, ⟨ax_v265 h, ⟨ax_v267 h, ⟨ax_v269 h, ⟨ax_v271 h, ⟨ax_v273 h, ⟨ax_v275 h, ⟨ax_v277 h, ⟨ax_v279 h, ⟨ax_v281 h, ⟨ax_v283 h, ⟨ax_v285 h, ⟨ax_v287 h, ⟨ax_v289 h, ⟨ax_v291 h, ⟨ax_v293 h, ⟨ax_v295 h, ⟨ax_v297 h, ⟨ax_v299 h, ⟨ax_v301 h, ⟨ax_v303 h, ⟨ax_v305 h, ⟨ax_v307 h, ⟨ax_v309 h, ⟨ax_v311 h, ⟨ax_v313 h, ⟨ax_v315 h, ⟨ax_v317 h, ⟨ax_v319 h, ⟨ax_v321 h, ⟨ax_v323 h, ⟨ax_v325 h, ⟨ax_v327 h, ⟨ax_v329 h, ⟨ax_v331 h, ⟨ax_v333 h, ⟨ax_v335 h, ⟨ax_v337 h, ⟨ax_v339 h, ⟨ax_v341 h, ⟨ax_v343 h, ⟨ax_v345 h, ⟨ax_v347 h, ⟨ax_v349 h, ⟨ax_v351 h, ⟨ax_v353 h, ⟨ax_v355 h, ⟨ax_v357 h, ⟨ax_v359 h, ⟨ax_v361 h, ⟨ax_v363 h, ⟨ax_v365 h, ⟨ax_v367 h, ⟨ax_v369 h, ⟨ax_v371 h, ⟨ax_v373 h, ⟨ax_v375 h, ⟨ax_v377 h, ⟨ax_v379 h, ⟨ax_v381 h, ⟨ax_v383 h, ⟨ax_v385 h, ⟨ax_v387 h, ⟨ax_v389 h, ⟨ax_v391 h, ⟨ax_v393 h, ⟨ax_v395 h, ⟨ax_v397 h, ⟨ax_v399 h, ⟨ax_v401 h, ⟨ax_v403 h, ⟨ax_v405 h, ⟨ax_v407 h, ⟨ax_v409 h, ⟨ax_v411 h, ⟨ax_v413 h, ⟨ax_v415 h, ⟨ax_v417 h, ⟨ax_v419 h, ⟨ax_v421 h, ⟨ax_v423 h, ⟨ax_v425 h, ⟨ax_v427 h, ⟨ax_v429 h, ⟨ax_v431 h, ⟨ax_v433 h, ⟨ax_v435 h, ⟨ax_v437 h, ⟨ax_v439 h, ⟨ax_v441 h, ⟨ax_v443 h, ⟨ax_v445 h, ⟨ax_v447 h, ⟨ax_v449 h, ⟨ax_v451 h, ⟨ax_v453 h, ⟨ax_v455 h, ⟨ax_v457 h, ⟨ax_v459 h, ⟨ax_v461 h, ⟨ax_v463 h, ⟨ax_v465 h, ⟨ax_v467 h, ⟨ax_v469 h, ⟨ax_v471 h, ⟨ax_v473 h, ⟨ax_v475 h, ⟨ax_v477 h, ⟨ax_v479 h, ⟨ax_v481 h, ⟨ax_v483 h, ⟨ax_v485 h, ⟨ax_v487 h, ⟨ax_v489 h, ⟨ax_v491 h, ⟨ax_v493 h, ⟨ax_v495 h, ⟨ax_v497 h, ⟨ax_v499 h, ⟨ax_v501 h, ⟨ax_v503 h, ⟨ax_v505 h, ⟨ax_v507 h, ⟨ax_v509 h, ⟨ax_v511 h, ⟨ax_v513 h, ⟨ax_v515 h, ⟨ax_v517 h, ⟨ax_v519 h, ⟨ax_v521 h, ⟨ax_v523 h, ⟨ax_v525 h, ⟨ax_v527 h, ⟨ax_v529 h, ⟨ax_v531 h, ⟨ax_v533 h, ⟨ax_v535 h, ⟨ax_v537 h, ⟨ax_v539 h, ⟨ax_v541 h, ⟨ax_v543 h, ⟨ax_v545 h, ⟨ax_v547 h, ⟨ax_v549 h, ⟨ax_v551 h, ⟨ax_v553 h, ⟨ax_v555 h, ⟨ax_v557 h, ⟨ax_v559 h, ⟨ax_v561 h, ⟨ax_v563 h, ⟨ax_v565 h, ⟨ax_v567 h, ⟨ax_v569 h, ⟨ax_v571 h, ⟨ax_v573 h, ⟨ax_v575 h, ⟨ax_v577 h, ⟨ax_v579 h, ⟨ax_v581 h, ⟨ax_v583 h, ⟨ax_v585 h, ⟨ax_v587 h, ⟨ax_v589 h, ⟨ax_v591 h, ⟨ax_v593 h, ⟨ax_v595 h, ⟨ax_v597 h, ⟨ax_v599 h, ⟨ax_v601 h, ⟨ax_v603 h, ⟨ax_v605 h, ⟨ax_v607 h, ⟨ax_v609 h, ⟨ax_v611 h, ⟨ax_v613 h, ⟨ax_v615 h, ⟨ax_v617 h, ⟨ax_v619 h, ⟨ax_v621 h, ⟨ax_v623 h, ⟨ax_v625 h, ⟨ax_v627 h, ⟨ax_v629 h, ⟨ax_v631 h, ⟨ax_v633 h, ⟨ax_v635 h, ⟨ax_v637 h, ⟨ax_v639 h, ⟨ax_v641 h, ⟨ax_v643 h, ⟨ax_v645 h, ⟨ax_v647 h, ⟨ax_v649 h, ⟨ax_v651 h, ⟨ax_v653 h, ⟨ax_v655 h, ⟨ax_v657 h, ⟨ax_v659 h, ⟨ax_v661 h, ⟨ax_v663 h, ⟨ax_v665 h, ⟨ax_v667 h, ⟨ax_v669 h, ⟨ax_v671 h, ⟨ax_v673 h, ⟨ax_v675 h, ⟨ax_v677 h, ⟨ax_v679 h, ⟨ax_v681 h, ⟨ax_v683 h, ⟨ax_v685 h, ⟨ax_v687 h, ⟨ax_v689 h, ⟨ax_v691 h, ⟨ax_v693 h, ⟨ax_v695 h, ⟨ax_v697 h, ⟨ax_v699 h, ⟨ax_v701 h, ⟨ax_v703 h, ⟨ax_v705 h, ⟨ax_v707 h, ⟨ax_v709 h, ⟨ax_v711 h, ⟨ax_v713 h, ⟨ax_v715 h, True.intro⟩⟩⟩⟩⟩⟩⟩⟩⟩⟩⟩⟩⟩⟩⟩⟩⟩⟩⟩⟩⟩⟩⟩⟩⟩⟩⟩⟩⟩⟩⟩⟩⟩⟩⟩⟩⟩⟩⟩⟩⟩⟩⟩⟩⟩⟩⟩⟩⟩⟩⟩⟩⟩⟩⟩⟩⟩⟩⟩⟩⟩⟩⟩⟩⟩⟩⟩⟩⟩⟩⟩⟩⟩⟩⟩⟩⟩⟩⟩⟩⟩⟩⟩⟩⟩⟩⟩⟩⟩⟩⟩⟩⟩⟩⟩⟩⟩⟩⟩⟩⟩⟩⟩⟩⟩⟩⟩⟩⟩⟩⟩⟩⟩⟩⟩⟩⟩⟩⟩⟩⟩⟩⟩⟩⟩⟩⟩⟩⟩⟩⟩⟩⟩⟩⟩⟩⟩⟩⟩⟩⟩⟩⟩⟩⟩⟩⟩⟩⟩⟩⟩⟩⟩⟩⟩⟩⟩⟩⟩⟩⟩⟩⟩⟩⟩⟩⟩⟩⟩⟩⟩⟩⟩⟩⟩⟩⟩⟩⟩⟩⟩⟩⟩⟩⟩⟩⟩⟩⟩⟩⟩⟩⟩⟩⟩⟩⟩⟩⟩⟩⟩⟩⟩⟩⟩⟩⟩⟩⟩⟩⟩⟩⟩⟩⟩⟩⟩⟩⟩⟩⟩⟩⟩⟩⟩⟩⟩⟩⟩⟩⟩⟩⟩⟩⟩⟩⟩⟩⟩⟩⟩⟩⟩⟩⟩⟩⟩⟩⟩⟩⟩⟩⟩⟩⟩, True.intro⟩⟩ rfl rfl rfl ax_q716
theorem ax_v717 {N : Nat} {sy : sx_Y} (h : ax_Sc N sy) : ax_Valid N sy ax_c717 := ax_vd (g := ax_g717) h ⟨⟨ax_v716 h, True.intro⟩, ⟨⟨ax_v204 h, True.intro⟩, True.intro⟩⟩ rfl rfl rfl ax_q717
theorem ax_v718 {N : Nat} {sy : sx_Y} (h : ax_Sc N sy) : ax_Valid N sy ax_c718 := ax_vd (g := ax_g718) h ⟨⟨ax_v197 h, True.intro⟩, ⟨⟨ax_v717 h, True.intro⟩, True.intro⟩⟩ rfl rfl rfl ax_q718
theorem ax_v719 {N : Nat} {sy : sx_Y} (h : ax_Sc N sy) : ax_Valid N sy ax_c719 := ax_vd (g := ax_g719) h ⟨⟨ax_v170 h, ⟨ax_v174 h, True.intro⟩⟩, ⟨⟨ax_v193 h, True.intro⟩, ⟨⟨ax_v200 h, True.intro⟩, True.intro⟩⟩⟩ rfl rfl rfl ax_q719
theorem ax_v721 {N : Nat} {sy : sx_Y} (h : ax_Sc N sy) : ax_Valid N sy ax_c721 := ax_vd (g := ax_g721) h True.intro rfl rfl rfl ax_q721
theorem ax_v722 {N : Nat} {sy : sx_Y} (h : ax_Sc N sy) : ax_Valid N sy ax_c722 := ax_vd (g := ax_g722) h ⟨⟨ax_v719 h, True.intro⟩, ⟨⟨ax_v720 h, True.intro⟩, ⟨⟨ax_v721 h, True.intro⟩, True.intro⟩⟩⟩ rfl rfl rfl ax_q722
theorem ax_v723 {N : Nat} {sy : sx_Y} (h : ax_Sc N sy) : ax_Valid N sy ax_c723 := ax_vd (g := ax_g723) h ⟨⟨ax_v199 h, True.intro⟩, ⟨⟨ax_v722 h, True.intro⟩, True.intro⟩⟩ rfl rfl rfl ax_q723
theorem ax_v724 {N : Nat} {sy : sx_Y} (h : ax_Sc N sy) : ax_Valid N sy ax_c724 := ax_vd (g := ax_g724) h ⟨⟨ax_v197 h, True.intro⟩, ⟨⟨ax_v163 h, True.intro⟩, True.intro⟩⟩ rfl rfl rfl ax_q724
theorem ax_v725 {N : Nat} {sy : sx_Y} (h : ax_Sc N sy) : ax_Valid N sy ax_c725 := ax_vd (g := ax_g725) h ⟨⟨ax_v199 h, True.intro⟩, ⟨⟨ax_v180 h, True.intro⟩, ⟨⟨ax_v176 h, ⟨ax_v170 h, True.intro⟩⟩, ⟨⟨ax_v200 h, True.intro⟩, True.intro⟩⟩⟩⟩ rfl rfl rfl ax_q725
theorem ax_v726 {N : Nat} {sy : sx_Y} (h : ax_Sc N sy) : ax_Valid N sy ax_c726 := ax_vd (g := ax_g726) h ⟨⟨ax_v197 h, True.intro⟩, True.intro⟩ rfl rfl rfl ax_q726
theorem ax_v727 {N : Nat} {sy : sx_Y} (h : ax_Sc N sy) : ax_Valid N sy ax_c727 := ax_vd (g := ax_g727) h ⟨⟨ax_v199 h, True.intro⟩, ⟨⟨ax_v172 h, True.intro⟩, ⟨⟨ax_v170 h, True.intro⟩, ⟨⟨ax_v200 h, True.intro⟩, True.intro⟩⟩⟩⟩ rfl rfl rfl ax_q727
theorem ax_v728 {N : Nat} {sy : sx_Y} (h : ax_Sc N sy) : ax_Valid N sy ax_c728 := ax_vd (g := ax_g728) h ⟨⟨ax_v197 h, True.intro⟩, True.intro⟩ rfl rfl rfl ax_q728
theorem ax_v729 {N : Nat} {sy : sx_Y} (h : ax_Sc N sy) : ax_Valid N sy ax_c729 := ax_vd (g := ax_g729) h ⟨⟨ax_v199 h, True.intro⟩, ⟨⟨ax_v175 h, True.intro⟩, True.intro⟩⟩ rfl rfl rfl ax_q729
theorem ax_v730 {N : Nat} {sy : sx_Y} (h : ax_Sc N sy) : ax_Valid N sy ax_c730 := ax_vd (g := ax_g730) h ⟨⟨ax_v197 h, True.intro⟩, True.intro⟩ rfl rfl rfl ax_q730
theorem ax_v731 {N : Nat} {sy : sx_Y} (h : ax_Sc N sy) : ax_Valid N sy ax_c731 := ax_vd (g := ax_g731) h ⟨⟨ax_v199 h, True.intro⟩, ⟨⟨ax_v177 h, True.intro⟩, True.intro⟩⟩ rfl rfl rfl ax_q731
theorem ax_v732 {N : Nat} {sy : sx_Y} (h : ax_Sc N sy) : ax_Valid N sy ax_c732 := ax_vd (g := ax_g732) h ⟨⟨ax_v717 h, True.intro⟩, True.intro⟩ rfl rfl rfl ax_q732
theorem ax_v733 {N : Nat} {sy : sx_Y} (h : ax_Sc N sy) : ax_Valid N sy ax_c733 := ax_vd (g := ax_g733) h ⟨⟨ax_v197 h, True.intro⟩, ⟨⟨ax_v732 h, True.intro⟩, True.intro⟩⟩ rfl rfl rfl ax_q733
theorem ax_v734 {N : Nat} {sy : sx_Y} (h : ax_Sc N sy) : ax_Valid N sy ax_c734 := ax_vd (g := ax_g734) h ⟨⟨ax_v722 h, True.intro⟩, True.intro⟩ rfl rfl rfl ax_q734
theorem ax_v735 {N : Nat} {sy : sx_Y} (h : ax_Sc N sy) : ax_Valid N sy ax_c735 := ax_vd (g := ax_g735) h ⟨⟨ax_v199 h, True.intro⟩, ⟨⟨ax_v734 h, True.intro⟩, True.intro⟩⟩ rfl rfl rfl ax_q735
theorem ax_v736 {N : Nat} {sy : sx_Y} (h : ax_Sc N sy) : ax_Valid N sy ax_c736 := ax_vd (g := ax_g736) h ⟨⟨ax_v167 h, True.intro⟩, True.intro⟩ rfl rfl rfl ax_q736
theorem ax_v737 {N : Nat} {sy : sx_Y} (h : ax_Sc N sy) : ax_Valid N sy ax_c737 := ax_vd (g := ax_g737) h ⟨⟨ax_v185 h, True.intro⟩, True.intro⟩ rfl rfl rfl ax_q737
theorem ax_v738 {N : Nat} {sy : sx_Y} (h : ax_Sc N sy) : ax_Valid N sy ax_c738 := ax_vd (g := ax_g738) h ⟨⟨ax_v167 h, True.intro⟩, True.intro⟩ rfl rfl rfl ax_q738
theorem ax_v739 {N : Nat} {sy : sx_Y} (h : ax_Sc N sy) : ax_Valid N sy ax_c739 := ax_vd (g := ax_g739) h ⟨⟨ax_v173 h, True.intro⟩, ⟨⟨ax_v170 h, True.intro⟩, ⟨⟨ax_v185 h, True.intro⟩, True.intro⟩⟩⟩ rfl rfl rfl ax_q739
theorem ax_v740 {N : Nat} {sy : sx_Y} (h : ax_Sc N sy) : ax_Valid N sy ax_c740 := ax_vd (g := ax_g740) h True.intro rfl rfl rfl ax_q740
theorem ax_v741 {N : Nat} {sy : sx_Y} (h : ax_Sc N sy) : ax_Valid N sy ax_c741 := ax_vd (g := ax_g741) h ⟨⟨ax_v740 h, True.intro⟩, True.intro⟩ rfl rfl rfl ax_q741
theorem ax_v742 {N : Nat} {sy : sx_Y} (h : ax_Sc N sy) : ax_Valid N sy ax_c742 := ax_vd (g := ax_g742) h ⟨⟨ax_v741 h, True.intro⟩, True.intro⟩ rfl rfl rfl ax_q742
theorem ax_v743 {N : Nat} {sy : sx_Y} (h : ax_Sc N sy) : ax_Valid N sy ax_c743 := ax_vd (g := ax_g743) h True.intro rfl rfl rfl ax_q743
theorem ax_v744 {N : Nat} {sy : sx_Y} (h : ax_Sc N sy) : ax_Valid N sy ax_c744 := ax_vd (g := ax_g744) h ⟨⟨ax_v743 h, True.intro⟩, ⟨⟨ax_v742 h, True.intro⟩, True.intro⟩⟩ rfl rfl rfl ax_q744
theorem ax_v745 {N : Nat} {sy : sx_Y} (h : ax_Sc N sy) : ax_Valid N sy ax_c745 := ax_vd (g := ax_g745) h True.intro rfl rfl rfl ax_q745
theorem ax_v746 {N : Nat} {sy : sx_Y} (h : ax_Sc N sy) : ax_Valid N sy ax_c746 := ax_vd (g := ax_g746) h True.intro rfl rfl rfl ax_q746
theorem ax_v747 {N : Nat} {sy : sx_Y} (h : ax_Sc N sy) : ax_Valid N sy ax_c747 := ax_vd (g := ax_g747) h ⟨⟨ax_v745 h, True.intro⟩, ⟨⟨ax_v746 h, True.intro⟩, True.intro⟩⟩ rfl rfl rfl ax_q747
theorem ax_v748 {N : Nat} {sy : sx_Y} (h : ax_Sc N sy) : ax_Valid N sy ax_c748 := ax_vd (g := ax_g748) h ⟨⟨ax_v742 h, True.intro⟩, True.intro⟩ rfl rfl rfl ax_q748
theorem ax_v749 {N : Nat} {sy : sx_Y} (h : ax_Sc N sy) : ax_Valid N sy ax_c749 := ax_vd (g := ax_g749) h ⟨⟨ax_v745 h, True.intro⟩, True.intro⟩ rfl rfl rfl ax_q749
theorem ax_v750 {N : Nat} {sy : sx_Y} (h : ax_Sc N sy) : ax_Valid N sy ax_c750 := ax_vd (g := ax_g750) h True.intro rfl rfl rfl ax_q750
theorem ax_v751 {N : Nat} {sy : sx_Y} (h : ax_Sc N sy) : ax_Valid N sy ax_c751 := ax_vd (g := ax_g751) h True.intro rfl rfl rfl ax_q751
theorem ax_v752 {N : Nat} {sy : sx_Y} (h : ax_Sc N sy) : ax_Valid N sy ax_c752 := ax_vd (g := ax_g752) h True.intro rfl rfl rfl ax_q752
theorem ax_v753 {N : Nat} {sy : sx_Y} (h : ax_Sc N sy) : ax_Valid N sy ax_c753 := ax_vd (g := ax_g753) h ⟨⟨ax_v743 h, True.intro⟩, ⟨⟨ax_v750 h, True.intro⟩, ⟨⟨ax_v751 h, True.intro⟩, ⟨⟨ax_v742 h, True.intro⟩, ⟨⟨ax_v752 h, True.intro⟩, True.intro⟩⟩⟩⟩⟩ rfl rfl rfl ax_q753
theorem ax_v754 {N : Nat} {sy : sx_Y} (h : ax_Sc N sy) : ax_Valid N sy ax_c754 := ax_vd (g := ax_g754) h True.intro rfl rfl rfl ax_q754
theorem ax_v755 {N : Nat} {sy : sx_Y} (h : ax_Sc N sy) : ax_Valid N sy ax_c755 := ax_vd (g := ax_g755) h True.intro rfl rfl rfl ax_q755
theorem ax_v756 {N : Nat} {sy : sx_Y} (h : ax_Sc N sy) : ax_Valid N sy ax_c756 := ax_vd (g := ax_g756) h True.intro rfl rfl rfl ax_q756
theorem ax_v757 {N : Nat} {sy : sx_Y} (h : ax_Sc N sy) : ax_Valid N sy ax_c757 := ax_vd (g := ax_g757) h ⟨⟨ax_v745 h, True.intro⟩, ⟨⟨ax_v746 h, True.intro⟩, ⟨⟨ax_v754 h, True.intro⟩, ⟨⟨ax_v755 h, True.intro⟩, ⟨⟨ax_v756 h, True.intro⟩, True.intro⟩⟩⟩⟩⟩ rfl rfl rfl ax_q757
theorem ax_v758 {N : Nat} {sy : sx_Y} (h : ax_Sc N sy) : ax_Valid N sy ax_c758 := ax_vd (g := ax_g758) h True.intro rfl rfl rfl ax_q758
theorem ax_v759 {N : Nat} {sy : sx_Y} (h : ax_Sc N sy) : ax_Valid N sy ax_c759 := ax_vd (g := ax_g759) h ⟨⟨ax_v758 h, True.intro⟩, True.intro⟩ rfl rfl rfl ax_q759
theorem ax_v760 {N : Nat} {sy : sx_Y} (h : ax_Sc N sy) : ax_Valid N sy ax_c760 := ax_vd (g := ax_g760) h True.intro rfl rfl rfl ax_q760
theorem ax_v761 {N : Nat} {sy : sx_Y} (h : ax_Sc N sy) : ax_Valid N sy ax_c761 := ax_vd (g := ax_g761) h ⟨⟨ax_v760 h, ⟨ax_v751 h, True.intro⟩⟩, ⟨⟨ax_v759 h, True.intro⟩, True.intro⟩⟩ rfl rfl rfl ax_q761
theorem ax_v762 {N : Nat} {sy : sx_Y} (h : ax_Sc N sy) : ax_Valid N sy ax_c762 := ax_vd (g := ax_g762) h ⟨⟨ax_v761 h, True.intro⟩, True.intro⟩ rfl rfl rfl ax_q762
theorem ax_v763 {N : Nat} {sy : sx_Y} (h : ax_Sc N sy) : ax_Valid N sy ax_c763 := ax_vd (g := ax_g763) h True.intro rfl rfl rfl ax_q763
theorem ax_v764 {N : Nat} {sy : sx_Y} (h : ax_Sc N sy) : ax_Valid N sy ax_c764 := ax_vd (g := ax_g764) h ⟨⟨ax_v763 h, True.intro⟩, True.intro⟩ rfl rfl rfl ax_q764
theorem ax_v766 {N : Nat} {sy : sx_Y} (h : ax_Sc N sy) : ax_Valid N sy ax_c766 := ax_vd (g := ax_g766) h ⟨⟨ax_v765 h, True.intro⟩, ⟨⟨ax_v764 h, True.intro⟩, True.intro⟩⟩ rfl rfl rfl ax_q766
theorem ax_v767 {N : Nat} {sy : sx_Y} (h : ax_Sc N sy) : ax_Valid N sy ax_c767 := ax_vd (g := ax_g767) h ⟨⟨ax_v759 h, True.intro⟩, True.intro⟩ rfl rfl rfl ax_q767
theorem ax_v768 {N : Nat} {sy : sx_Y} (h : ax_Sc N sy) : ax_Valid N sy ax_c768 := ax_vd (g := ax_g768) h ⟨⟨ax_v764 h, True.intro⟩, True.intro⟩ rfl rfl rfl ax_q768
theorem ax_v769 {N : Nat} {sy : sx_Y} (h : ax_Sc N sy) : ax_Valid N sy ax_c769 := ax_vd (g := ax_g769) h ⟨⟨ax_v191 h, True.intro⟩, True.intro⟩ rfl rfl rfl ax_q769
theorem ax_v770 {N : Nat} {sy : sx_Y} (h : ax_Sc N sy) : ax_Valid N sy ax_c770 := ax_vd (g := ax_g770) h ⟨⟨ax_v173 h, True.intro⟩, ⟨⟨ax_v170 h, ⟨ax_v178 h, True.intro⟩⟩, ⟨⟨ax_v193 h, True.intro⟩, True.intro⟩⟩⟩ rfl rfl rfl ax_q770
theorem ax_v771 {N : Nat} {sy : sx_Y} (h : ax_Sc N sy) : ax_Valid N sy ax_c771 := ax_vd (g := ax_g771) h ⟨⟨ax_v164 h, True.intro⟩, True.intro⟩ rfl rfl rfl ax_q771
theorem ax_v772 {N : Nat} {sy : sx_Y} (h : ax_Sc N sy) : ax_Valid N sy ax_c772 := ax_vd (g := ax_g772) h ⟨⟨ax_v182 h, True.intro⟩, True.intro⟩ rfl rfl rfl ax_q772
theorem ax_v773 {N : Nat} {sy : sx_Y} (h : ax_Sc N sy) : ax_Valid N sy ax_c773 := ax_vd (g := ax_g773) h ⟨⟨ax_v772 h, True.intro⟩, True.intro⟩ rfl rfl rfl ax_q773
theorem ax_v774 {N : Nat} {sy : sx_Y} (h : ax_Sc N sy) : ax_Valid N sy ax_c774 := ax_vd (g := ax_g774) h True.intro rfl rfl rfl ax_q774
theorem ax_v775 {N : Nat} {sy : sx_Y} (h : ax_Sc N sy) : ax_Valid N sy ax_c775 := ax_vd (g := ax_g775) h ⟨⟨ax_v207 h, ⟨ax_v774 h, True.intro⟩⟩, True.intro⟩ rfl rfl rfl ax_q775
theorem ax_v776 {N : Nat} {sy : sx_Y} (h : ax_Sc N sy) : ax_Valid N sy ax_c776 := ax_vd (g := ax_g776) h ⟨⟨ax_v775 h, True.intro⟩, True.intro⟩ rfl rfl rfl ax_q776
theorem ax_v777 {N : Nat} {sy : sx_Y} (h : ax_Sc N sy) : ax_Valid N sy ax_c777 := ax_vd (g := ax_g777) h ⟨⟨ax_v181 h, True.intro⟩, True.intro⟩ rfl rfl rfl ax_q777
theorem ax_v778 {N : Nat} {sy : sx_Y} (h : ax_Sc N sy) : ax_Valid N sy ax_c778 := ax_vd (g := ax_g778) h ⟨⟨ax_v181 h, True.intro⟩, ⟨⟨ax_v777 h, True.intro⟩, ⟨⟨ax_v772 h, True.intro⟩, True.intro⟩⟩⟩ rfl rfl rfl ax_q778
theorem ax_v779 {N : Nat} {sy : sx_Y} (h : ax_Sc N sy) : ax_Valid N sy ax_c779 := ax_vd (g := ax_g779) h True.intro rfl rfl rfl ax_q779
theorem ax_v780 {N : Nat} {sy : sx_Y} (h : ax_Sc N sy) : ax_Valid N sy ax_c780 := ax_vd (g := ax_g780) h ⟨⟨ax_v775 h, True.intro⟩, ⟨⟨ax_v779 h, True.intro⟩, True.intro⟩⟩ rfl rfl rfl ax_q780
theorem ax_v781 {N : Nat} {sy : sx_Y} (h : ax_Sc N sy) : ax_Valid N sy ax_c781 := ax_vd (g := ax_g781) h ⟨⟨ax_v772 h, True.intro⟩, True.intro⟩ rfl rfl rfl ax_q781
theorem ax_v782 {N : Nat} {sy : sx_Y} (h : ax_Sc N sy) : ax_Valid N sy ax_c782 := ax_vd (g := ax_g782) h ⟨⟨ax_v777 h, True.intro⟩, ⟨⟨ax_v781 h, True.intro⟩, True.intro⟩⟩ rfl rfl rfl ax_q782
theorem ax_v783 {N : Nat} {sy : sx_Y} (h : ax_Sc N sy) : ax_Valid N sy ax_c783 := ax_vd (g := ax_g783) h ⟨⟨ax_v782 h, True.intro⟩, True.intro⟩ rfl rfl rfl ax_q783
theorem ax_v784 {N : Nat} {sy : sx_Y} (h : ax_Sc N sy) : ax_Valid N sy ax_c784 := ax_vd (g := ax_g784) h ⟨⟨ax_v775 h, True.intro⟩, ⟨⟨ax_v760 h, ⟨ax_v751 h, True.intro⟩⟩, True.intro⟩⟩ rfl rfl rfl ax_q784
theorem ax_v785 {N : Nat} {sy : sx_Y} (h : ax_Sc N sy) : ax_Valid N sy ax_c785 := ax_vd (g := ax_g785) h True.intro rfl rfl rfl ax_q785
theorem ax_v786 {N : Nat} {sy : sx_Y} (h : ax_Sc N sy) : ax_Valid N sy ax_c786 := ax_vd (g := ax_g786) h True.intro rfl rfl rfl ax_q786
theorem ax_v787 {N : Nat} {sy : sx_Y} (h : ax_Sc N sy) : ax_Valid N sy ax_c787 := ax_vd (g := ax_g787) h ⟨⟨ax_v181 h, True.intro⟩, ⟨⟨ax_v172 h, True.intro⟩, ⟨⟨ax_v786 h, ⟨ax_v785 h, True.intro⟩⟩, ⟨⟨ax_v765 h, True.intro⟩, ⟨⟨ax_v777 h, True.intro⟩, ⟨⟨ax_v781 h, True.intro⟩, True.intro⟩⟩⟩⟩⟩⟩ rfl rfl rfl ax_q787
theorem ax_v788 {N : Nat} {sy : sx_Y} (h : ax_Sc N sy) : ax_Valid N sy ax_c788 := ax_vd (g := ax_g788) h ⟨⟨ax_v775 h, True.intro⟩, ⟨⟨ax_v205 h, ⟨ax_v751 h, True.intro⟩⟩, True.intro⟩⟩ rfl rfl rfl ax_q788
theorem ax_v789 {N : Nat} {sy : sx_Y} (h : ax_Sc N sy) : ax_Valid N sy ax_c789 := ax_vd (g := ax_g789) h ⟨⟨ax_v788 h, True.intro⟩, True.intro⟩ rfl rfl rfl ax_q789
theorem ax_v790 {N : Nat} {sy : sx_Y} (h : ax_Sc N sy) : ax_Valid N sy ax_c790 := ax_vd (g := ax_g790) h ⟨⟨ax_v765 h, True.intro⟩, ⟨⟨ax_v777 h, True.intro⟩, ⟨⟨ax_v772 h, True.intro⟩, True.intro⟩⟩⟩ rfl rfl rfl ax_q790
theorem ax_v791 {N : Nat} {sy : sx_Y} (h : ax_Sc N sy) : ax_Valid N sy ax_c791 := ax_vd (g := ax_g791) h True.intro rfl rfl rfl ax_q791
theorem ax_v792 {N : Nat} {sy : sx_Y} (h : ax_Sc N sy) : ax_Valid N sy ax_c792 := ax_vd (g := ax_g792) h ⟨⟨ax_v775 h, True.intro⟩, ⟨⟨ax_v791 h, True.intro⟩, True.intro⟩⟩ rfl rfl rfl ax_q792
theorem ax_v793 {N : Nat} {sy : sx_Y} (h : ax_Sc N sy) : ax_Valid N sy ax_c793 := ax_vd (g := ax_g793) h ⟨⟨ax_v772 h, True.intro⟩, ⟨⟨ax_v781 h, True.intro⟩, True.intro⟩⟩ rfl rfl rfl ax_q793
theorem ax_v794 {N : Nat} {sy : sx_Y} (h : ax_Sc N sy) : ax_Valid N sy ax_c794 := ax_vd (g := ax_g794) h ⟨⟨ax_v777 h, True.intro⟩, ⟨⟨ax_v793 h, True.intro⟩, True.intro⟩⟩ rfl rfl rfl ax_q794
theorem ax_v795 {N : Nat} {sy : sx_Y} (h : ax_Sc N sy) : ax_Valid N sy ax_c795 := ax_vd (g := ax_g795) h ⟨⟨ax_v775 h, True.intro⟩, ⟨⟨ax_v779 h, True.intro⟩, True.intro⟩⟩ rfl rfl rfl ax_q795
theorem ax_v796 {N : Nat} {sy : sx_Y} (h : ax_Sc N sy) : ax_Valid N sy ax_c796 := ax_vd (g := ax_g796) h ⟨⟨ax_v172 h, True.intro⟩, ⟨⟨ax_v782 h, True.intro⟩, True.intro⟩⟩ rfl rfl rfl ax_q796
theorem ax_v797 {N : Nat} {sy : sx_Y} (h : ax_Sc N sy) : ax_Valid N sy ax_c797 := ax_vd (g := ax_g797) h ⟨⟨ax_v164 h, True.intro⟩, True.intro⟩ rfl rfl rfl ax_q797
theorem ax_v798 {N : Nat} {sy : sx_Y} (h : ax_Sc N sy) : ax_Valid N sy ax_c798 := ax_vd (g := ax_g798) h ⟨⟨ax_v181 h, True.intro⟩, ⟨⟨ax_v772 h, True.intro⟩, True.intro⟩⟩ rfl rfl rfl ax_q798
theorem ax_v799 {N : Nat} {sy : sx_Y} (h : ax_Sc N sy) : ax_Valid N sy ax_c799 := ax_vd (g := ax_g799) h ⟨⟨ax_v775 h, True.intro⟩, ⟨⟨ax_v779 h, True.intro⟩, True.intro⟩⟩ rfl rfl rfl ax_q799
theorem ax_v800 {N : Nat} {sy : sx_Y} (h : ax_Sc N sy) : ax_Valid N sy ax_c800 := ax_vd (g := ax_g800) h ⟨⟨ax_v799 h, True.intro⟩, True.intro⟩ rfl rfl rfl ax_q800
theorem ax_v801 {N : Nat} {sy : sx_Y} (h : ax_Sc N sy) : ax_Valid N sy ax_c801 := ax_vd (g := ax_g801) h ⟨⟨ax_v782 h, True.intro⟩, True.intro⟩ rfl rfl rfl ax_q801
theorem ax_v802 {N : Nat} {sy : sx_Y} (h : ax_Sc N sy) : ax_Valid N sy ax_c802 := ax_vd (g := ax_g802) h ⟨⟨ax_v801 h, True.intro⟩, True.intro⟩ rfl rfl rfl ax_q802
theorem ax_v803 {N : Nat} {sy : sx_Y} (h : ax_Sc N sy) : ax_Valid N sy ax_c803 := ax_vd (g := ax_g803) h True.intro rfl rfl rfl ax_q803
theorem ax_v804 {N : Nat} {sy : sx_Y} (h : ax_Sc N sy) : ax_Valid N sy ax_c804 := ax_vd (g := ax_g804) h ⟨⟨ax_v799 h, True.intro⟩, ⟨⟨ax_v205 h, ⟨ax_v751 h, True.intro⟩⟩, ⟨⟨ax_v803 h, True.intro⟩, True.intro⟩⟩⟩ rfl rfl rfl ax_q804
theorem ax_v805 {N : Nat} {sy : sx_Y} (h : ax_Sc N sy) : ax_Valid N sy ax_c805 := ax_vd (g := ax_g805) h ⟨⟨ax_v804 h, True.intro⟩, True.intro⟩ rfl rfl rfl ax_q805
theorem ax_v806 {N : Nat} {sy : sx_Y} (h : ax_Sc N sy) : ax_Valid N sy ax_c806 := ax_vd (g := ax_g806) h ⟨⟨ax_v181 h, True.intro⟩, ⟨⟨ax_v182 h, True.intro⟩, True.intro⟩⟩ rfl rfl rfl ax_q806
theorem ax_v807 {N : Nat} {sy : sx_Y} (h : ax_Sc N sy) : ax_Valid N sy ax_c807 := ax_vd (g := ax_g807) h ⟨⟨ax_v801 h, True.intro⟩, ⟨⟨ax_v765 h, True.intro⟩, ⟨⟨ax_v777 h, True.intro⟩, ⟨⟨ax_v772 h, True.intro⟩, ⟨⟨ax_v806 h, True.intro⟩, True.intro⟩⟩⟩⟩⟩ rfl rfl rfl ax_q807
theorem ax_v808 {N : Nat} {sy : sx_Y} (h : ax_Sc N sy) : ax_Valid N sy ax_c808 := ax_vd (g := ax_g808) h True.intro rfl rfl rfl ax_q808
theorem ax_v809 {N : Nat} {sy : sx_Y} (h : ax_Sc N sy) : ax_Valid N sy ax_c809 := ax_vd (g := ax_g809) h True.intro rfl rfl rfl ax_q809
theorem ax_v810 {N : Nat} {sy : sx_Y} (h : ax_Sc N sy) : ax_Valid N sy ax_c810 := ax_vd (g := ax_g810) h ⟨⟨ax_v207 h, ⟨ax_v774 h, True.intro⟩⟩, ⟨⟨ax_v809 h, True.intro⟩, True.intro⟩⟩ rfl rfl rfl ax_q810
theorem ax_v811 {N : Nat} {sy : sx_Y} (h : ax_Sc N sy) : ax_Valid N sy ax_c811 := ax_vd (g := ax_g811) h ⟨⟨ax_v809 h, True.intro⟩, True.intro⟩ rfl rfl rfl ax_q811
theorem ax_v812 {N : Nat} {sy : sx_Y} (h : ax_Sc N sy) : ax_Valid N sy ax_c812 := ax_vd (g := ax_g812) h ⟨⟨ax_v810 h, True.intro⟩, ⟨⟨ax_v811 h, True.intro⟩, ⟨⟨ax_v808 h, True.intro⟩, True.intro⟩⟩⟩ rfl rfl rfl ax_q812
theorem ax_v813 {N : Nat} {sy : sx_Y} (h : ax_Sc N sy) : ax_Valid N sy ax_c813 := ax_vd (g := ax_g813) h True.intro rfl rfl rfl ax_q813
theorem ax_v814 {N : Nat} {sy : sx_Y} (h : ax_Sc N sy) : ax_Valid N sy ax_c814 := ax_vd (g := ax_g814) h ⟨⟨ax_v721 h, True.intro⟩, True.intro⟩ rfl rfl rfl ax_q814
