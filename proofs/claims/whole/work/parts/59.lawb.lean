/-! the law: block rules of its loop -/
set_option maxHeartbeats 4000000 in
set_option maxRecDepth 100000 in
theorem B_Lw_law_18 {S : XS} {Q : Int32 → St → Prop} (σ : St) (x3 : Int32) (H : ((((Int32.ofNat S.1) - (6 : Int32)) < x3 → Q (1 : Int32) σ) ∧ (¬ ((Int32.ofNat S.1) - (6 : Int32)) < x3 → (vp_in x3 S.1) ∧ ((((S.2 x3.toNatClampNeg) &&& (63 : Int32)) = (0 : Int32) → (vp_in (x3 + (1 : Int32)) S.1) ∧ (vp_in (x3 + (2 : Int32)) S.1) ∧ (vp_in (x3 + (3 : Int32)) S.1) ∧ (vp_in (x3 + (4 : Int32)) S.1) ∧ (vp_in (x3 + (5 : Int32)) S.1) ∧ CM S m_TH_feed [.ref 0, .int (S.2 (x3 + (1 : Int32)).toNatClampNeg), .int (S.2 (x3 + (2 : Int32)).toNatClampNeg), .int (S.2 (x3 + (3 : Int32)).toNatClampNeg), .int (S.2 (x3 + (4 : Int32)).toNatClampNeg), .int (S.2 (x3 + (5 : Int32)).toNatClampNeg)] (enc σ) (qI (fun v41 τ42 => (vp_in (x3 + (1 : Int32)) S.1) ∧ (vp_in (x3 + (2 : Int32)) S.1) ∧ (vp_in (x3 + (3 : Int32)) S.1) ∧ (vp_in (x3 + (4 : Int32)) S.1) ∧ (vp_in (x3 + (5 : Int32)) S.1) ∧ CM S m_Md_feed [.ref 153, .int (S.2 (x3 + (1 : Int32)).toNatClampNeg), .int (S.2 (x3 + (2 : Int32)).toNatClampNeg), .int (S.2 (x3 + (3 : Int32)).toNatClampNeg), .int (S.2 (x3 + (4 : Int32)).toNatClampNeg), .int (S.2 (x3 + (5 : Int32)).toNatClampNeg)] (enc τ42) (qI (fun v48 τ49 => ((v41 = v48 → BW S m_Lw_law 1305 [some (.retAddr 99), some (.ref 0), some (.ref 153), some (.int x3)] [] (enc τ49) (qI Q)) ∧ (¬ v41 = v48 → Q (0 : Int32) τ49))))))) ∧ (((S.2 x3.toNatClampNeg) &&& (63 : Int32)) = (1 : Int32) → (vp_in (x3 + (1 : Int32)) S.1) ∧ CM S m_TH_end [.ref 0, .int (S.2 (x3 + (1 : Int32)).toNatClampNeg)] (enc σ) (qI (fun v52 τ53 => (vp_in (x3 + (1 : Int32)) S.1) ∧ CM S m_Md_end [.ref 153, .int (S.2 (x3 + (1 : Int32)).toNatClampNeg)] (enc τ53) (qI (fun v55 τ56 => ((v52 = v55 → BW S m_Lw_law 1305 [some (.retAddr 99), some (.ref 0), some (.ref 153), some (.int x3)] [] (enc τ56) (qI Q)) ∧ (¬ v52 = v55 → Q (0 : Int32) τ56))))))) ∧ (((S.2 x3.toNatClampNeg) &&& (63 : Int32)) = (2 : Int32) → (vp_in (x3 + (1 : Int32)) S.1) ∧ CM S m_TH_paragraph [.ref 0, .int (S.2 (x3 + (1 : Int32)).toNatClampNeg)] (enc σ) (qI (fun v59 τ60 => (vp_in (x3 + (1 : Int32)) S.1) ∧ CM S m_Md_paragraph [.ref 153, .int (S.2 (x3 + (1 : Int32)).toNatClampNeg)] (enc τ60) (qI (fun v62 τ63 => ((v59 = v62 → BW S m_Lw_law 1305 [some (.retAddr 99), some (.ref 0), some (.ref 153), some (.int x3)] [] (enc τ63) (qI Q)) ∧ (¬ v59 = v62 → Q (0 : Int32) τ63))))))) ∧ (((S.2 x3.toNatClampNeg) &&& (63 : Int32)) = (3 : Int32) → (vp_in (x3 + (1 : Int32)) S.1) ∧ CM S m_TH_word [.ref 0, .int (S.2 (x3 + (1 : Int32)).toNatClampNeg)] (enc σ) (qI (fun v66 τ67 => (vp_in (x3 + (1 : Int32)) S.1) ∧ CM S m_Md_word [.ref 153, .int (S.2 (x3 + (1 : Int32)).toNatClampNeg)] (enc τ67) (qI (fun v69 τ70 => ((v66 = v69 → BW S m_Lw_law 1305 [some (.retAddr 99), some (.ref 0), some (.ref 153), some (.int x3)] [] (enc τ70) (qI Q)) ∧ (¬ v66 = v69 → Q (0 : Int32) τ70))))))) ∧ (((S.2 x3.toNatClampNeg) &&& (63 : Int32)) = (4 : Int32) → CM S m_TH_clear [.ref 0] (enc σ) (qI (fun v72 τ73 => CM S m_Md_clear [.ref 153] (enc τ73) (qI (fun v74 τ75 => ((v72 = v74 → BW S m_Lw_law 1305 [some (.retAddr 99), some (.ref 0), some (.ref 153), some (.int x3)] [] (enc τ75) (qI Q)) ∧ (¬ v72 = v74 → Q (0 : Int32) τ75))))))) ∧ (((S.2 x3.toNatClampNeg) &&& (63 : Int32)) = (5 : Int32) → (vp_in (x3 + (1 : Int32)) S.1) ∧ (vp_in (x3 + (2 : Int32)) S.1) ∧ (vp_in (x3 + (3 : Int32)) S.1) ∧ (vp_in (x3 + (4 : Int32)) S.1) ∧ CM S m_TH_page [.ref 0, .int (S.2 (x3 + (1 : Int32)).toNatClampNeg), .int (S.2 (x3 + (2 : Int32)).toNatClampNeg), .int (S.2 (x3 + (3 : Int32)).toNatClampNeg), .int (S.2 (x3 + (4 : Int32)).toNatClampNeg)] (enc σ) (qI (fun v81 τ82 => (vp_in (x3 + (1 : Int32)) S.1) ∧ (vp_in (x3 + (2 : Int32)) S.1) ∧ (vp_in (x3 + (3 : Int32)) S.1) ∧ (vp_in (x3 + (4 : Int32)) S.1) ∧ CM S m_Md_page [.ref 153, .int (S.2 (x3 + (1 : Int32)).toNatClampNeg), .int (S.2 (x3 + (2 : Int32)).toNatClampNeg), .int (S.2 (x3 + (3 : Int32)).toNatClampNeg), .int (S.2 (x3 + (4 : Int32)).toNatClampNeg)] (enc τ82) (qI (fun v87 τ88 => ((v81 = v87 → BW S m_Lw_law 1305 [some (.retAddr 99), some (.ref 0), some (.ref 153), some (.int x3)] [] (enc τ88) (qI Q)) ∧ (¬ v81 = v87 → Q (0 : Int32) τ88))))))) ∧ (((S.2 x3.toNatClampNeg) &&& (63 : Int32)) = (6 : Int32) → (vp_in (x3 + (1 : Int32)) S.1) ∧ (vp_in (x3 + (2 : Int32)) S.1) ∧ CM S m_TH_lines [.ref 0, .int (S.2 (x3 + (1 : Int32)).toNatClampNeg), .int (S.2 (x3 + (2 : Int32)).toNatClampNeg)] (enc σ) (qI (fun v92 τ93 => (vp_in (x3 + (1 : Int32)) S.1) ∧ (vp_in (x3 + (2 : Int32)) S.1) ∧ CM S m_Md_lines [.ref 153, .int (S.2 (x3 + (1 : Int32)).toNatClampNeg), .int (S.2 (x3 + (2 : Int32)).toNatClampNeg)] (enc τ93) (qI (fun v96 τ97 => ((v92 = v96 → BW S m_Lw_law 1305 [some (.retAddr 99), some (.ref 0), some (.ref 153), some (.int x3)] [] (enc τ97) (qI Q)) ∧ (¬ v92 = v96 → Q (0 : Int32) τ97))))))) ∧ (((S.2 x3.toNatClampNeg) &&& (63 : Int32)) = (7 : Int32) → (vp_in (x3 + (1 : Int32)) S.1) ∧ CM S m_TH_fill [.ref 0, .int (S.2 (x3 + (1 : Int32)).toNatClampNeg)] (enc σ) (qI (fun v100 τ101 => (vp_in (x3 + (1 : Int32)) S.1) ∧ CM S m_Md_fill [.ref 153, .int (S.2 (x3 + (1 : Int32)).toNatClampNeg)] (enc τ101) (qI (fun v103 τ104 => ((v100 = v103 → BW S m_Lw_law 1305 [some (.retAddr 99), some (.ref 0), some (.ref 153), some (.int x3)] [] (enc τ104) (qI Q)) ∧ (¬ v100 = v103 → Q (0 : Int32) τ104))))))) ∧ (((S.2 x3.toNatClampNeg) &&& (63 : Int32)) = (8 : Int32) → (vp_in (x3 + (1 : Int32)) S.1) ∧ (vp_in (x3 + (2 : Int32)) S.1) ∧ CM S m_TH_set [.ref 0, .int (S.2 (x3 + (1 : Int32)).toNatClampNeg), .int (S.2 (x3 + (2 : Int32)).toNatClampNeg)] (enc σ) (qI (fun v108 τ109 => (vp_in (x3 + (1 : Int32)) S.1) ∧ (vp_in (x3 + (2 : Int32)) S.1) ∧ CM S m_Md_set [.ref 153, .int (S.2 (x3 + (1 : Int32)).toNatClampNeg), .int (S.2 (x3 + (2 : Int32)).toNatClampNeg)] (enc τ109) (qI (fun v112 τ113 => ((v108 = v112 → BW S m_Lw_law 1305 [some (.retAddr 99), some (.ref 0), some (.ref 153), some (.int x3)] [] (enc τ113) (qI Q)) ∧ (¬ v108 = v112 → Q (0 : Int32) τ113))))))) ∧ (((S.2 x3.toNatClampNeg) &&& (63 : Int32)) = (9 : Int32) → (vp_in (x3 + (1 : Int32)) S.1) ∧ (vp_in (x3 + (2 : Int32)) S.1) ∧ CM S m_TH_line [.ref 0, .int (S.2 (x3 + (1 : Int32)).toNatClampNeg), .int (S.2 (x3 + (2 : Int32)).toNatClampNeg)] (enc σ) (qI (fun v117 τ118 => (vp_in (x3 + (1 : Int32)) S.1) ∧ (vp_in (x3 + (2 : Int32)) S.1) ∧ CM S m_Md_line [.ref 153, .int (S.2 (x3 + (1 : Int32)).toNatClampNeg), .int (S.2 (x3 + (2 : Int32)).toNatClampNeg)] (enc τ118) (qI (fun v121 τ122 => ((v117 = v121 → BW S m_Lw_law 1305 [some (.retAddr 99), some (.ref 0), some (.ref 153), some (.int x3)] [] (enc τ122) (qI Q)) ∧ (¬ v117 = v121 → Q (0 : Int32) τ122))))))) ∧ (((S.2 x3.toNatClampNeg) &&& (63 : Int32)) = (10 : Int32) → (vp_in (x3 + (1 : Int32)) S.1) ∧ (vp_in (x3 + (2 : Int32)) S.1) ∧ CM S m_TH_fact [.ref 0, .int (S.2 (x3 + (1 : Int32)).toNatClampNeg), .int (S.2 (x3 + (2 : Int32)).toNatClampNeg)] (enc σ) (qI (fun v126 τ127 => (vp_in (x3 + (1 : Int32)) S.1) ∧ (vp_in (x3 + (2 : Int32)) S.1) ∧ CM S m_Md_fact [.ref 153, .int (S.2 (x3 + (1 : Int32)).toNatClampNeg), .int (S.2 (x3 + (2 : Int32)).toNatClampNeg)] (enc τ127) (qI (fun v130 τ131 => ((v126 = v130 → BW S m_Lw_law 1305 [some (.retAddr 99), some (.ref 0), some (.ref 153), some (.int x3)] [] (enc τ131) (qI Q)) ∧ (¬ v126 = v130 → Q (0 : Int32) τ131))))))) ∧ (((S.2 x3.toNatClampNeg) &&& (63 : Int32)) = (11 : Int32) → (vp_in (x3 + (1 : Int32)) S.1) ∧ CM S m_TH_fault [.ref 0, .int (S.2 (x3 + (1 : Int32)).toNatClampNeg)] (enc σ) (qI (fun v134 τ135 => (vp_in (x3 + (1 : Int32)) S.1) ∧ CM S m_Md_fault [.ref 153, .int (S.2 (x3 + (1 : Int32)).toNatClampNeg)] (enc τ135) (qI (fun v137 τ138 => ((v134 = v137 → BW S m_Lw_law 1305 [some (.retAddr 99), some (.ref 0), some (.ref 153), some (.int x3)] [] (enc τ138) (qI Q)) ∧ (¬ v134 = v137 → Q (0 : Int32) τ138))))))) ∧ (((S.2 x3.toNatClampNeg) &&& (63 : Int32)) = (12 : Int32) → (vp_in (x3 + (1 : Int32)) S.1) ∧ (vp_in (x3 + (2 : Int32)) S.1) ∧ CM S m_TH_strike [.ref 0, .int (S.2 (x3 + (1 : Int32)).toNatClampNeg), .int (S.2 (x3 + (2 : Int32)).toNatClampNeg)] (enc σ) (qI (fun v142 τ143 => (vp_in (x3 + (1 : Int32)) S.1) ∧ (vp_in (x3 + (2 : Int32)) S.1) ∧ CM S m_Md_strike [.ref 153, .int (S.2 (x3 + (1 : Int32)).toNatClampNeg), .int (S.2 (x3 + (2 : Int32)).toNatClampNeg)] (enc τ143) (qI (fun v146 τ147 => ((v142 = v146 → BW S m_Lw_law 1305 [some (.retAddr 99), some (.ref 0), some (.ref 153), some (.int x3)] [] (enc τ147) (qI Q)) ∧ (¬ v142 = v146 → Q (0 : Int32) τ147))))))) ∧ (((S.2 x3.toNatClampNeg) &&& (63 : Int32)) = (13 : Int32) → (vp_in (x3 + (1 : Int32)) S.1) ∧ (vp_in (x3 + (2 : Int32)) S.1) ∧ CM S m_TH_quarrel [.ref 0, .int (S.2 (x3 + (1 : Int32)).toNatClampNeg), .int (S.2 (x3 + (2 : Int32)).toNatClampNeg)] (enc σ) (qI (fun v151 τ152 => (vp_in (x3 + (1 : Int32)) S.1) ∧ (vp_in (x3 + (2 : Int32)) S.1) ∧ CM S m_Md_quarrel [.ref 153, .int (S.2 (x3 + (1 : Int32)).toNatClampNeg), .int (S.2 (x3 + (2 : Int32)).toNatClampNeg)] (enc τ152) (qI (fun v155 τ156 => ((v151 = v155 → BW S m_Lw_law 1305 [some (.retAddr 99), some (.ref 0), some (.ref 153), some (.int x3)] [] (enc τ156) (qI Q)) ∧ (¬ v151 = v155 → Q (0 : Int32) τ156))))))) ∧ (((S.2 x3.toNatClampNeg) &&& (63 : Int32)) = (14 : Int32) → (vp_in (x3 + (1 : Int32)) S.1) ∧ CM S m_TH_quarrels [.ref 0, .int (S.2 (x3 + (1 : Int32)).toNatClampNeg)] (enc σ) (qI (fun v159 τ160 => (vp_in (x3 + (1 : Int32)) S.1) ∧ CM S m_Md_quarrels [.ref 153, .int (S.2 (x3 + (1 : Int32)).toNatClampNeg)] (enc τ160) (qI (fun v162 τ163 => ((v159 = v162 → BW S m_Lw_law 1305 [some (.retAddr 99), some (.ref 0), some (.ref 153), some (.int x3)] [] (enc τ163) (qI Q)) ∧ (¬ v159 = v162 → Q (0 : Int32) τ163))))))) ∧ (((S.2 x3.toNatClampNeg) &&& (63 : Int32)) = (15 : Int32) → (vp_in (x3 + (1 : Int32)) S.1) ∧ (vp_in (x3 + (2 : Int32)) S.1) ∧ CM S m_TH_found [.ref 0, .int (S.2 (x3 + (1 : Int32)).toNatClampNeg), .int (S.2 (x3 + (2 : Int32)).toNatClampNeg)] (enc σ) (qI (fun v167 τ168 => (vp_in (x3 + (1 : Int32)) S.1) ∧ (vp_in (x3 + (2 : Int32)) S.1) ∧ CM S m_Md_found [.ref 153, .int (S.2 (x3 + (1 : Int32)).toNatClampNeg), .int (S.2 (x3 + (2 : Int32)).toNatClampNeg)] (enc τ168) (qI (fun v171 τ172 => ((v167 = v171 → BW S m_Lw_law 1305 [some (.retAddr 99), some (.ref 0), some (.ref 153), some (.int x3)] [] (enc τ172) (qI Q)) ∧ (¬ v167 = v171 → Q (0 : Int32) τ172))))))) ∧ (((S.2 x3.toNatClampNeg) &&& (63 : Int32)) = (16 : Int32) → (vp_in (x3 + (1 : Int32)) S.1) ∧ CM S m_TH_mend [.ref 0, .int (S.2 (x3 + (1 : Int32)).toNatClampNeg)] (enc σ) (qI (fun v175 τ176 => (vp_in (x3 + (1 : Int32)) S.1) ∧ CM S m_Md_mend [.ref 153, .int (S.2 (x3 + (1 : Int32)).toNatClampNeg)] (enc τ176) (qI (fun v178 τ179 => ((v175 = v178 → BW S m_Lw_law 1305 [some (.retAddr 99), some (.ref 0), some (.ref 153), some (.int x3)] [] (enc τ179) (qI Q)) ∧ (¬ v175 = v178 → Q (0 : Int32) τ179))))))) ∧ (((S.2 x3.toNatClampNeg) &&& (63 : Int32)) = (17 : Int32) → (vp_in (x3 + (1 : Int32)) S.1) ∧ CM S m_TH_agree [.ref 0, .int (S.2 (x3 + (1 : Int32)).toNatClampNeg)] (enc σ) (qI (fun v182 τ183 => (vp_in (x3 + (1 : Int32)) S.1) ∧ CM S m_Md_agree [.ref 153, .int (S.2 (x3 + (1 : Int32)).toNatClampNeg)] (enc τ183) (qI (fun v185 τ186 => ((v182 = v185 → BW S m_Lw_law 1305 [some (.retAddr 99), some (.ref 0), some (.ref 153), some (.int x3)] [] (enc τ186) (qI Q)) ∧ (¬ v182 = v185 → Q (0 : Int32) τ186))))))) ∧ (((S.2 x3.toNatClampNeg) &&& (63 : Int32)) = (18 : Int32) → (vp_in (x3 + (1 : Int32)) S.1) ∧ CM S m_TH_agreed [.ref 0, .int (S.2 (x3 + (1 : Int32)).toNatClampNeg)] (enc σ) (qI (fun v189 τ190 => (vp_in (x3 + (1 : Int32)) S.1) ∧ CM S m_Md_agreed [.ref 153, .int (S.2 (x3 + (1 : Int32)).toNatClampNeg)] (enc τ190) (qI (fun v192 τ193 => ((v189 = v192 → BW S m_Lw_law 1305 [some (.retAddr 99), some (.ref 0), some (.ref 153), some (.int x3)] [] (enc τ193) (qI Q)) ∧ (¬ v189 = v192 → Q (0 : Int32) τ193))))))) ∧ (((S.2 x3.toNatClampNeg) &&& (63 : Int32)) = (19 : Int32) → (vp_in (x3 + (1 : Int32)) S.1) ∧ CM S m_TH_share [.ref 0, .int (S.2 (x3 + (1 : Int32)).toNatClampNeg)] (enc σ) (qL (fun v196 τ197 => (vp_in (x3 + (1 : Int32)) S.1) ∧ CM S m_Md_share [.ref 153, .int (S.2 (x3 + (1 : Int32)).toNatClampNeg)] (enc τ197) (qL (fun v199 τ200 => (((lg_cmp v196 v199) = 0 → BW S m_Lw_law 1305 [some (.retAddr 99), some (.ref 0), some (.ref 153), some (.int x3)] [] (enc τ200) (qI Q)) ∧ (¬ (lg_cmp v196 v199) = 0 → Q (0 : Int32) τ200))))))) ∧ (((S.2 x3.toNatClampNeg) &&& (63 : Int32)) = (20 : Int32) → (vp_in (x3 + (1 : Int32)) S.1) ∧ CM S m_TH_start [.ref 0, .int (S.2 (x3 + (1 : Int32)).toNatClampNeg)] (enc σ) (qI (fun v203 τ204 => (vp_in (x3 + (1 : Int32)) S.1) ∧ CM S m_Md_start [.ref 153, .int (S.2 (x3 + (1 : Int32)).toNatClampNeg)] (enc τ204) (qI (fun v206 τ207 => ((v203 = v206 → BW S m_Lw_law 1305 [some (.retAddr 99), some (.ref 0), some (.ref 153), some (.int x3)] [] (enc τ207) (qI Q)) ∧ (¬ v203 = v206 → Q (0 : Int32) τ207))))))) ∧ (((S.2 x3.toNatClampNeg) &&& (63 : Int32)) = (21 : Int32) → (vp_in (x3 + (1 : Int32)) S.1) ∧ (vp_in (x3 + (2 : Int32)) S.1) ∧ CM S m_TH_came [.ref 0, .int (S.2 (x3 + (1 : Int32)).toNatClampNeg), .int (S.2 (x3 + (2 : Int32)).toNatClampNeg)] (enc σ) (qI (fun v211 τ212 => (vp_in (x3 + (1 : Int32)) S.1) ∧ (vp_in (x3 + (2 : Int32)) S.1) ∧ CM S m_Md_came [.ref 153, .int (S.2 (x3 + (1 : Int32)).toNatClampNeg), .int (S.2 (x3 + (2 : Int32)).toNatClampNeg)] (enc τ212) (qI (fun v215 τ216 => ((v211 = v215 → BW S m_Lw_law 1305 [some (.retAddr 99), some (.ref 0), some (.ref 153), some (.int x3)] [] (enc τ216) (qI Q)) ∧ (¬ v211 = v215 → Q (0 : Int32) τ216))))))) ∧ (((S.2 x3.toNatClampNeg) &&& (63 : Int32)) = (22 : Int32) → (vp_in (x3 + (1 : Int32)) S.1) ∧ CM S m_TH_due [.ref 0, .int (S.2 (x3 + (1 : Int32)).toNatClampNeg)] (enc σ) (qI (fun v219 τ220 => (vp_in (x3 + (1 : Int32)) S.1) ∧ CM S m_Md_due [.ref 153, .int (S.2 (x3 + (1 : Int32)).toNatClampNeg)] (enc τ220) (qI (fun v222 τ223 => ((v219 = v222 → BW S m_Lw_law 1305 [some (.retAddr 99), some (.ref 0), some (.ref 153), some (.int x3)] [] (enc τ223) (qI Q)) ∧ (¬ v219 = v222 → Q (0 : Int32) τ223))))))) ∧ (((S.2 x3.toNatClampNeg) &&& (63 : Int32)) = (23 : Int32) → (vp_in (x3 + (1 : Int32)) S.1) ∧ (vp_in (x3 + (2 : Int32)) S.1) ∧ (vp_in (x3 + (3 : Int32)) S.1) ∧ (vp_in (x3 + (4 : Int32)) S.1) ∧ CM S m_TH_prices [.ref 0, .int (S.2 (x3 + (1 : Int32)).toNatClampNeg), .int (S.2 (x3 + (2 : Int32)).toNatClampNeg), .int (S.2 (x3 + (3 : Int32)).toNatClampNeg), .int (S.2 (x3 + (4 : Int32)).toNatClampNeg)] (enc σ) (qI (fun v229 τ230 => (vp_in (x3 + (1 : Int32)) S.1) ∧ (vp_in (x3 + (2 : Int32)) S.1) ∧ (vp_in (x3 + (3 : Int32)) S.1) ∧ (vp_in (x3 + (4 : Int32)) S.1) ∧ CM S m_Md_prices [.ref 153, .int (S.2 (x3 + (1 : Int32)).toNatClampNeg), .int (S.2 (x3 + (2 : Int32)).toNatClampNeg), .int (S.2 (x3 + (3 : Int32)).toNatClampNeg), .int (S.2 (x3 + (4 : Int32)).toNatClampNeg)] (enc τ230) (qI (fun v235 τ236 => ((v229 = v235 → BW S m_Lw_law 1305 [some (.retAddr 99), some (.ref 0), some (.ref 153), some (.int x3)] [] (enc τ236) (qI Q)) ∧ (¬ v229 = v235 → Q (0 : Int32) τ236))))))) ∧ (((S.2 x3.toNatClampNeg) &&& (63 : Int32)) = (24 : Int32) → (vp_in (x3 + (1 : Int32)) S.1) ∧ (vp_in (x3 + (2 : Int32)) S.1) ∧ (vp_in (x3 + (3 : Int32)) S.1) ∧ (((S.2 (x3 + (3 : Int32)).toNatClampNeg) = 0 → CM S m_TH_keep [.ref 0, .int (S.2 (x3 + (1 : Int32)).toNatClampNeg), .int (S.2 (x3 + (2 : Int32)).toNatClampNeg), .int (0 : Int32)] (enc σ) (qI (fun v241 τ242 => (vp_in (x3 + (1 : Int32)) S.1) ∧ (vp_in (x3 + (2 : Int32)) S.1) ∧ (vp_in (x3 + (3 : Int32)) S.1) ∧ (((S.2 (x3 + (3 : Int32)).toNatClampNeg) = 0 → CM S m_Md_keep [.ref 153, .int (S.2 (x3 + (1 : Int32)).toNatClampNeg), .int (S.2 (x3 + (2 : Int32)).toNatClampNeg), .int (0 : Int32)] (enc τ242) (qI (fun v246 τ247 => ((v241 = v246 → BW S m_Lw_law 1305 [some (.retAddr 99), some (.ref 0), some (.ref 153), some (.int x3)] [] (enc τ247) (qI Q)) ∧ (¬ v241 = v246 → Q (0 : Int32) τ247))))) ∧ (¬ (S.2 (x3 + (3 : Int32)).toNatClampNeg) = 0 → CM S m_Md_keep [.ref 153, .int (S.2 (x3 + (1 : Int32)).toNatClampNeg), .int (S.2 (x3 + (2 : Int32)).toNatClampNeg), .int (1 : Int32)] (enc τ242) (qI (fun v249 τ250 => ((v241 = v249 → BW S m_Lw_law 1305 [some (.retAddr 99), some (.ref 0), some (.ref 153), some (.int x3)] [] (enc τ250) (qI Q)) ∧ (¬ v241 = v249 → Q (0 : Int32) τ250))))))))) ∧ (¬ (S.2 (x3 + (3 : Int32)).toNatClampNeg) = 0 → CM S m_TH_keep [.ref 0, .int (S.2 (x3 + (1 : Int32)).toNatClampNeg), .int (S.2 (x3 + (2 : Int32)).toNatClampNeg), .int (1 : Int32)] (enc σ) (qI (fun v253 τ254 => (vp_in (x3 + (1 : Int32)) S.1) ∧ (vp_in (x3 + (2 : Int32)) S.1) ∧ (vp_in (x3 + (3 : Int32)) S.1) ∧ (((S.2 (x3 + (3 : Int32)).toNatClampNeg) = 0 → CM S m_Md_keep [.ref 153, .int (S.2 (x3 + (1 : Int32)).toNatClampNeg), .int (S.2 (x3 + (2 : Int32)).toNatClampNeg), .int (0 : Int32)] (enc τ254) (qI (fun v258 τ259 => ((v253 = v258 → BW S m_Lw_law 1305 [some (.retAddr 99), some (.ref 0), some (.ref 153), some (.int x3)] [] (enc τ259) (qI Q)) ∧ (¬ v253 = v258 → Q (0 : Int32) τ259))))) ∧ (¬ (S.2 (x3 + (3 : Int32)).toNatClampNeg) = 0 → CM S m_Md_keep [.ref 153, .int (S.2 (x3 + (1 : Int32)).toNatClampNeg), .int (S.2 (x3 + (2 : Int32)).toNatClampNeg), .int (1 : Int32)] (enc τ254) (qI (fun v261 τ262 => ((v253 = v261 → BW S m_Lw_law 1305 [some (.retAddr 99), some (.ref 0), some (.ref 153), some (.int x3)] [] (enc τ262) (qI Q)) ∧ (¬ v253 = v261 → Q (0 : Int32) τ262))))))))))) ∧ (((S.2 x3.toNatClampNeg) &&& (63 : Int32)) = (25 : Int32) → (vp_in (x3 + (1 : Int32)) S.1) ∧ (vp_in (x3 + (2 : Int32)) S.1) ∧ (vp_in (x3 + (3 : Int32)) S.1) ∧ CM S m_TH_print [.ref 0, .int (S.2 (x3 + (1 : Int32)).toNatClampNeg), .int (S.2 (x3 + (2 : Int32)).toNatClampNeg), .int (S.2 (x3 + (3 : Int32)).toNatClampNeg)] (enc σ) (qI (fun v269 τ270 => (vp_in (x3 + (1 : Int32)) S.1) ∧ (vp_in (x3 + (2 : Int32)) S.1) ∧ (vp_in (x3 + (3 : Int32)) S.1) ∧ CM S m_Md_print [.ref 153, .int (S.2 (x3 + (1 : Int32)).toNatClampNeg), .int (S.2 (x3 + (2 : Int32)).toNatClampNeg), .int (S.2 (x3 + (3 : Int32)).toNatClampNeg)] (enc τ270) (qI (fun v274 τ275 => ((v269 = v274 → BW S m_Lw_law 1305 [some (.retAddr 99), some (.ref 0), some (.ref 153), some (.int x3)] [] (enc τ275) (qI Q)) ∧ (¬ v269 = v274 → Q (0 : Int32) τ275))))))) ∧ (((S.2 x3.toNatClampNeg) &&& (63 : Int32)) = (26 : Int32) → (vp_in (x3 + (1 : Int32)) S.1) ∧ (vp_in (x3 + (2 : Int32)) S.1) ∧ (vp_in (x3 + (3 : Int32)) S.1) ∧ CM S m_TH_sell [.ref 0, .int (S.2 (x3 + (1 : Int32)).toNatClampNeg), .int (S.2 (x3 + (2 : Int32)).toNatClampNeg), .int (S.2 (x3 + (3 : Int32)).toNatClampNeg)] (enc σ) (qI (fun v280 τ281 => (vp_in (x3 + (1 : Int32)) S.1) ∧ (vp_in (x3 + (2 : Int32)) S.1) ∧ (vp_in (x3 + (3 : Int32)) S.1) ∧ CM S m_Md_sell [.ref 153, .int (S.2 (x3 + (1 : Int32)).toNatClampNeg), .int (S.2 (x3 + (2 : Int32)).toNatClampNeg), .int (S.2 (x3 + (3 : Int32)).toNatClampNeg)] (enc τ281) (qI (fun v285 τ286 => ((v280 = v285 → BW S m_Lw_law 1305 [some (.retAddr 99), some (.ref 0), some (.ref 153), some (.int x3)] [] (enc τ286) (qI Q)) ∧ (¬ v280 = v285 → Q (0 : Int32) τ286))))))) ∧ (((S.2 x3.toNatClampNeg) &&& (63 : Int32)) = (27 : Int32) → (vp_in (x3 + (1 : Int32)) S.1) ∧ (vp_in (x3 + (2 : Int32)) S.1) ∧ CM S m_TH_pulp [.ref 0, .int (S.2 (x3 + (1 : Int32)).toNatClampNeg), .int (S.2 (x3 + (2 : Int32)).toNatClampNeg)] (enc σ) (qI (fun v290 τ291 => (vp_in (x3 + (1 : Int32)) S.1) ∧ (vp_in (x3 + (2 : Int32)) S.1) ∧ CM S m_Md_pulp [.ref 153, .int (S.2 (x3 + (1 : Int32)).toNatClampNeg), .int (S.2 (x3 + (2 : Int32)).toNatClampNeg)] (enc τ291) (qI (fun v294 τ295 => ((v290 = v294 → BW S m_Lw_law 1305 [some (.retAddr 99), some (.ref 0), some (.ref 153), some (.int x3)] [] (enc τ295) (qI Q)) ∧ (¬ v290 = v294 → Q (0 : Int32) τ295))))))) ∧ (((S.2 x3.toNatClampNeg) &&& (63 : Int32)) = (28 : Int32) → (vp_in (x3 + (1 : Int32)) S.1) ∧ (vp_in (x3 + (2 : Int32)) S.1) ∧ (vp_in (x3 + (3 : Int32)) S.1) ∧ CM S m_TH_stock [.ref 0, .int (S.2 (x3 + (1 : Int32)).toNatClampNeg), .int (S.2 (x3 + (2 : Int32)).toNatClampNeg), .int (S.2 (x3 + (3 : Int32)).toNatClampNeg)] (enc σ) (qI (fun v300 τ301 => (vp_in (x3 + (1 : Int32)) S.1) ∧ (vp_in (x3 + (2 : Int32)) S.1) ∧ (vp_in (x3 + (3 : Int32)) S.1) ∧ CM S m_Md_stock [.ref 153, .int (S.2 (x3 + (1 : Int32)).toNatClampNeg), .int (S.2 (x3 + (2 : Int32)).toNatClampNeg), .int (S.2 (x3 + (3 : Int32)).toNatClampNeg)] (enc τ301) (qI (fun v305 τ306 => ((v300 = v305 → BW S m_Lw_law 1305 [some (.retAddr 99), some (.ref 0), some (.ref 153), some (.int x3)] [] (enc τ306) (qI Q)) ∧ (¬ v300 = v305 → Q (0 : Int32) τ306))))))) ∧ (((S.2 x3.toNatClampNeg) &&& (63 : Int32)) = (29 : Int32) → (vp_in (x3 + (1 : Int32)) S.1) ∧ (vp_in (x3 + (2 : Int32)) S.1) ∧ (vp_in (x3 + (3 : Int32)) S.1) ∧ (vp_in (x3 + (4 : Int32)) S.1) ∧ CM S m_TH_volume [.ref 0, .int (S.2 (x3 + (1 : Int32)).toNatClampNeg), .int (S.2 (x3 + (2 : Int32)).toNatClampNeg), .int (S.2 (x3 + (3 : Int32)).toNatClampNeg), .int (S.2 (x3 + (4 : Int32)).toNatClampNeg)] (enc σ) (qI (fun v312 τ313 => (vp_in (x3 + (1 : Int32)) S.1) ∧ (vp_in (x3 + (2 : Int32)) S.1) ∧ (vp_in (x3 + (3 : Int32)) S.1) ∧ (vp_in (x3 + (4 : Int32)) S.1) ∧ CM S m_Md_volume [.ref 153, .int (S.2 (x3 + (1 : Int32)).toNatClampNeg), .int (S.2 (x3 + (2 : Int32)).toNatClampNeg), .int (S.2 (x3 + (3 : Int32)).toNatClampNeg), .int (S.2 (x3 + (4 : Int32)).toNatClampNeg)] (enc τ313) (qI (fun v318 τ319 => ((v312 = v318 → BW S m_Lw_law 1305 [some (.retAddr 99), some (.ref 0), some (.ref 153), some (.int x3)] [] (enc τ319) (qI Q)) ∧ (¬ v312 = v318 → Q (0 : Int32) τ319))))))) ∧ (((S.2 x3.toNatClampNeg) &&& (63 : Int32)) = (30 : Int32) → (vp_in (x3 + (1 : Int32)) S.1) ∧ (vp_in (x3 + (2 : Int32)) S.1) ∧ CM S m_TH_foretell [.ref 0, .int (S.2 (x3 + (1 : Int32)).toNatClampNeg), .int (S.2 (x3 + (2 : Int32)).toNatClampNeg)] (enc σ) (qI (fun v323 τ324 => (vp_in (x3 + (1 : Int32)) S.1) ∧ (vp_in (x3 + (2 : Int32)) S.1) ∧ CM S m_Md_foretell [.ref 153, .int (S.2 (x3 + (1 : Int32)).toNatClampNeg), .int (S.2 (x3 + (2 : Int32)).toNatClampNeg)] (enc τ324) (qI (fun v327 τ328 => ((v323 = v327 → BW S m_Lw_law 1305 [some (.retAddr 99), some (.ref 0), some (.ref 153), some (.int x3)] [] (enc τ328) (qI Q)) ∧ (¬ v323 = v327 → Q (0 : Int32) τ328))))))) ∧ (((S.2 x3.toNatClampNeg) &&& (63 : Int32)) = (31 : Int32) → (vp_in (x3 + (1 : Int32)) S.1) ∧ (vp_in (x3 + (2 : Int32)) S.1) ∧ CM S m_TH_best [.ref 0, .int (S.2 (x3 + (1 : Int32)).toNatClampNeg), .int (S.2 (x3 + (2 : Int32)).toNatClampNeg)] (enc σ) (qI (fun v332 τ333 => (vp_in (x3 + (1 : Int32)) S.1) ∧ (vp_in (x3 + (2 : Int32)) S.1) ∧ CM S m_Md_best [.ref 153, .int (S.2 (x3 + (1 : Int32)).toNatClampNeg), .int (S.2 (x3 + (2 : Int32)).toNatClampNeg)] (enc τ333) (qI (fun v336 τ337 => ((v332 = v336 → BW S m_Lw_law 1305 [some (.retAddr 99), some (.ref 0), some (.ref 153), some (.int x3)] [] (enc τ337) (qI Q)) ∧ (¬ v332 = v336 → Q (0 : Int32) τ337))))))) ∧ (((S.2 x3.toNatClampNeg) &&& (63 : Int32)) = (32 : Int32) → (vp_in (x3 + (1 : Int32)) S.1) ∧ (vp_in (x3 + (2 : Int32)) S.1) ∧ (vp_in (x3 + (3 : Int32)) S.1) ∧ CM S m_TH_worth [.ref 0, .int (S.2 (x3 + (1 : Int32)).toNatClampNeg), .int (S.2 (x3 + (2 : Int32)).toNatClampNeg), .int (S.2 (x3 + (3 : Int32)).toNatClampNeg)] (enc σ) (qL (fun v342 τ343 => (vp_in (x3 + (1 : Int32)) S.1) ∧ (vp_in (x3 + (2 : Int32)) S.1) ∧ (vp_in (x3 + (3 : Int32)) S.1) ∧ CM S m_Md_worth [.ref 153, .int (S.2 (x3 + (1 : Int32)).toNatClampNeg), .int (S.2 (x3 + (2 : Int32)).toNatClampNeg), .int (S.2 (x3 + (3 : Int32)).toNatClampNeg)] (enc τ343) (qL (fun v347 τ348 => (((lg_cmp v342 v347) = 0 → BW S m_Lw_law 1305 [some (.retAddr 99), some (.ref 0), some (.ref 153), some (.int x3)] [] (enc τ348) (qI Q)) ∧ (¬ (lg_cmp v342 v347) = 0 → Q (0 : Int32) τ348))))))) ∧ (((S.2 x3.toNatClampNeg) &&& (63 : Int32)) = (33 : Int32) → CM S m_TH_purse [.ref 0] (enc σ) (qL (fun v350 τ351 => CM S m_Md_purse [.ref 153] (enc τ351) (qL (fun v352 τ353 => (((lg_cmp v350 v352) = 0 → BW S m_Lw_law 1305 [some (.retAddr 99), some (.ref 0), some (.ref 153), some (.int x3)] [] (enc τ353) (qI Q)) ∧ (¬ (lg_cmp v350 v352) = 0 → Q (0 : Int32) τ353))))))) ∧ (¬ ((S.2 x3.toNatClampNeg) &&& (63 : Int32)) = (0 : Int32) → ¬ ((S.2 x3.toNatClampNeg) &&& (63 : Int32)) = (1 : Int32) → ¬ ((S.2 x3.toNatClampNeg) &&& (63 : Int32)) = (2 : Int32) → ¬ ((S.2 x3.toNatClampNeg) &&& (63 : Int32)) = (3 : Int32) → ¬ ((S.2 x3.toNatClampNeg) &&& (63 : Int32)) = (4 : Int32) → ¬ ((S.2 x3.toNatClampNeg) &&& (63 : Int32)) = (5 : Int32) → ¬ ((S.2 x3.toNatClampNeg) &&& (63 : Int32)) = (6 : Int32) → ¬ ((S.2 x3.toNatClampNeg) &&& (63 : Int32)) = (7 : Int32) → ¬ ((S.2 x3.toNatClampNeg) &&& (63 : Int32)) = (8 : Int32) → ¬ ((S.2 x3.toNatClampNeg) &&& (63 : Int32)) = (9 : Int32) → ¬ ((S.2 x3.toNatClampNeg) &&& (63 : Int32)) = (10 : Int32) → ¬ ((S.2 x3.toNatClampNeg) &&& (63 : Int32)) = (11 : Int32) → ¬ ((S.2 x3.toNatClampNeg) &&& (63 : Int32)) = (12 : Int32) → ¬ ((S.2 x3.toNatClampNeg) &&& (63 : Int32)) = (13 : Int32) → ¬ ((S.2 x3.toNatClampNeg) &&& (63 : Int32)) = (14 : Int32) → ¬ ((S.2 x3.toNatClampNeg) &&& (63 : Int32)) = (15 : Int32) → ¬ ((S.2 x3.toNatClampNeg) &&& (63 : Int32)) = (16 : Int32) → ¬ ((S.2 x3.toNatClampNeg) &&& (63 : Int32)) = (17 : Int32) → ¬ ((S.2 x3.toNatClampNeg) &&& (63 : Int32)) = (18 : Int32) → ¬ ((S.2 x3.toNatClampNeg) &&& (63 : Int32)) = (19 : Int32) → ¬ ((S.2 x3.toNatClampNeg) &&& (63 : Int32)) = (20 : Int32) → ¬ ((S.2 x3.toNatClampNeg) &&& (63 : Int32)) = (21 : Int32) → ¬ ((S.2 x3.toNatClampNeg) &&& (63 : Int32)) = (22 : Int32) → ¬ ((S.2 x3.toNatClampNeg) &&& (63 : Int32)) = (23 : Int32) → ¬ ((S.2 x3.toNatClampNeg) &&& (63 : Int32)) = (24 : Int32) → ¬ ((S.2 x3.toNatClampNeg) &&& (63 : Int32)) = (25 : Int32) → ¬ ((S.2 x3.toNatClampNeg) &&& (63 : Int32)) = (26 : Int32) → ¬ ((S.2 x3.toNatClampNeg) &&& (63 : Int32)) = (27 : Int32) → ¬ ((S.2 x3.toNatClampNeg) &&& (63 : Int32)) = (28 : Int32) → ¬ ((S.2 x3.toNatClampNeg) &&& (63 : Int32)) = (29 : Int32) → ¬ ((S.2 x3.toNatClampNeg) &&& (63 : Int32)) = (30 : Int32) → ¬ ((S.2 x3.toNatClampNeg) &&& (63 : Int32)) = (31 : Int32) → ¬ ((S.2 x3.toNatClampNeg) &&& (63 : Int32)) = (32 : Int32) → ¬ ((S.2 x3.toNatClampNeg) &&& (63 : Int32)) = (33 : Int32) → BW S m_Lw_law 1305 [some (.retAddr 99), some (.ref 0), some (.ref 153), some (.int x3)] [] (enc σ) (qI Q)))))) : BW S m_Lw_law 18 [some (.retAddr 99), some (.ref 0), some (.ref 153), some (.int x3)] [] (enc σ) (qI Q) := by
  refine b_iload_n d_Lw_law_18 rfl rfl ?_
  refine b_aload_nS d_Lw_law_19 rfl rfl ?_
  refine b_slen d_Lw_law_20 ?_
  refine b_bipush (v := (6 : Int32)) d_Lw_law_21 (by decide) ?_
  refine b_isub d_Lw_law_23  ?_
  refine b_icmp_gt (tgt := 1311) d_Lw_law_24 (by decide) (fun c355 => ?_) (fun c355 => ?_)
  · have H := H.1 c355
    refine b_iconst (v := (1 : Int32)) d_Lw_law_1311 (by decide) ?_
    exact b_iret (ty := .boolean) d_Lw_law_1312 rfl rfl ⟨_, _, rfl, rfl, H⟩
  · have H := H.2 c355
    refine b_aload_nS d_Lw_law_27 rfl rfl ?_
    refine b_iload_n d_Lw_law_28 rfl rfl ?_
    obtain ⟨h1, H⟩ := H
    refine b_sald d_Lw_law_29 h1 ?_
    refine b_bipush (v := (63 : Int32)) d_Lw_law_30 (by decide) ?_
    refine b_iand d_Lw_law_32  ?_
    by_cases c2 : ((S.2 x3.toNatClampNeg) &&& (63 : Int32)) = (0 : Int32)
    · have H := H.1 c2
      refine b_tableIn (off := 151) (tgt := 184) d_Lw_law_33 (by rw [c2]; decide) (by rw [c2]; decide) (by rw [c2]; rfl) (by decide) ?_
      refine b_aload_n d_Lw_law_184 rfl rfl ?_
      refine b_aload_nS d_Lw_law_185 rfl rfl ?_
      refine b_iload_n d_Lw_law_186 rfl rfl ?_
      refine b_iconst (v := (1 : Int32)) d_Lw_law_187 (by decide) ?_
      refine b_iadd d_Lw_law_188  ?_
      obtain ⟨h36, H⟩ := H
      refine b_sald d_Lw_law_189 h36 ?_
      refine b_aload_nS d_Lw_law_190 rfl rfl ?_
      refine b_iload_n d_Lw_law_191 rfl rfl ?_
      refine b_iconst (v := (2 : Int32)) d_Lw_law_192 (by decide) ?_
      refine b_iadd d_Lw_law_193  ?_
      obtain ⟨h37, H⟩ := H
      refine b_sald d_Lw_law_194 h37 ?_
      refine b_aload_nS d_Lw_law_195 rfl rfl ?_
      refine b_iload_n d_Lw_law_196 rfl rfl ?_
      refine b_iconst (v := (3 : Int32)) d_Lw_law_197 (by decide) ?_
      refine b_iadd d_Lw_law_198  ?_
      obtain ⟨h38, H⟩ := H
      refine b_sald d_Lw_law_199 h38 ?_
      refine b_aload_nS d_Lw_law_200 rfl rfl ?_
      refine b_iload_n d_Lw_law_201 rfl rfl ?_
      refine b_iconst (v := (4 : Int32)) d_Lw_law_202 (by decide) ?_
      refine b_iadd d_Lw_law_203  ?_
      obtain ⟨h39, H⟩ := H
      refine b_sald d_Lw_law_204 h39 ?_
      refine b_aload_nS d_Lw_law_205 rfl rfl ?_
      refine b_iload_n d_Lw_law_206 rfl rfl ?_
      refine b_iconst (v := (5 : Int32)) d_Lw_law_207 (by decide) ?_
      refine b_iadd d_Lw_law_208  ?_
      obtain ⟨h40, H⟩ := H
      refine b_sald d_Lw_law_209 h40 ?_
      refine b_callVi (Mc := m_TH_feed) (As := [.int (S.2 (x3 + (1 : Int32)).toNatClampNeg), .int (S.2 (x3 + (2 : Int32)).toNatClampNeg), .int (S.2 (x3 + (3 : Int32)).toNatClampNeg), .int (S.2 (x3 + (4 : Int32)).toNatClampNeg), .int (S.2 (x3 + (5 : Int32)).toNatClampNeg)]) (st := []) d_Lw_law_210 ⟨⟨kA_TH_feed.1, kA_TH_feed.2.1, kA_TH_feed.2.2, by decide⟩, ml_Lw_13, kV_TH_feed⟩ (eg_0 σ) rfl rfl (Nat.le_of_ble_eq_true rfl) H (fun v41 τ42 H => ?_)
      refine b_aload_n d_Lw_law_213 rfl rfl ?_
      refine b_aload_nS d_Lw_law_214 rfl rfl ?_
      refine b_iload_n d_Lw_law_215 rfl rfl ?_
      refine b_iconst (v := (1 : Int32)) d_Lw_law_216 (by decide) ?_
      refine b_iadd d_Lw_law_217  ?_
      obtain ⟨h43, H⟩ := H
      refine b_sald d_Lw_law_218 h43 ?_
      refine b_aload_nS d_Lw_law_219 rfl rfl ?_
      refine b_iload_n d_Lw_law_220 rfl rfl ?_
      refine b_iconst (v := (2 : Int32)) d_Lw_law_221 (by decide) ?_
      refine b_iadd d_Lw_law_222  ?_
      obtain ⟨h44, H⟩ := H
      refine b_sald d_Lw_law_223 h44 ?_
      refine b_aload_nS d_Lw_law_224 rfl rfl ?_
      refine b_iload_n d_Lw_law_225 rfl rfl ?_
      refine b_iconst (v := (3 : Int32)) d_Lw_law_226 (by decide) ?_
      refine b_iadd d_Lw_law_227  ?_
      obtain ⟨h45, H⟩ := H
      refine b_sald d_Lw_law_228 h45 ?_
      refine b_aload_nS d_Lw_law_229 rfl rfl ?_
      refine b_iload_n d_Lw_law_230 rfl rfl ?_
      refine b_iconst (v := (4 : Int32)) d_Lw_law_231 (by decide) ?_
      refine b_iadd d_Lw_law_232  ?_
      obtain ⟨h46, H⟩ := H
      refine b_sald d_Lw_law_233 h46 ?_
      refine b_aload_nS d_Lw_law_234 rfl rfl ?_
      refine b_iload_n d_Lw_law_235 rfl rfl ?_
      refine b_iconst (v := (5 : Int32)) d_Lw_law_236 (by decide) ?_
      refine b_iadd d_Lw_law_237  ?_
      obtain ⟨h47, H⟩ := H
      refine b_sald d_Lw_law_238 h47 ?_
      refine b_callVi (Mc := m_Md_feed) (As := [.int (S.2 (x3 + (1 : Int32)).toNatClampNeg), .int (S.2 (x3 + (2 : Int32)).toNatClampNeg), .int (S.2 (x3 + (3 : Int32)).toNatClampNeg), .int (S.2 (x3 + (4 : Int32)).toNatClampNeg), .int (S.2 (x3 + (5 : Int32)).toNatClampNeg)]) (st := [.int v41]) d_Lw_law_239 ⟨⟨kA_Md_feed.1, kA_Md_feed.2.1, kA_Md_feed.2.2, by decide⟩, ml_Lw_17, kV_Md_feed⟩ (eg_153 τ42) rfl rfl (Nat.le_of_ble_eq_true rfl) H (fun v48 τ49 H => ?_)
      refine b_icmp_eq (tgt := 1305) d_Lw_law_242 (by decide) (fun c50 => ?_) (fun c50 => ?_)
      · have H := H.1 c50
        exact b_mask [true, true, true, true] rfl H
      · have H := H.2 c50
        refine b_iconst (v := (0 : Int32)) d_Lw_law_245 (by decide) ?_
        exact b_iret (ty := .boolean) d_Lw_law_246 rfl rfl ⟨_, _, rfl, rfl, H⟩
    by_cases c3 : ((S.2 x3.toNatClampNeg) &&& (63 : Int32)) = (1 : Int32)
    · have H := H.2.1 c3
      refine b_tableIn (off := 214) (tgt := 247) d_Lw_law_33 (by rw [c3]; decide) (by rw [c3]; decide) (by rw [c3]; rfl) (by decide) ?_
      refine b_aload_n d_Lw_law_247 rfl rfl ?_
      refine b_aload_nS d_Lw_law_248 rfl rfl ?_
      refine b_iload_n d_Lw_law_249 rfl rfl ?_
      refine b_iconst (v := (1 : Int32)) d_Lw_law_250 (by decide) ?_
      refine b_iadd d_Lw_law_251  ?_
      obtain ⟨h51, H⟩ := H
      refine b_sald d_Lw_law_252 h51 ?_
      refine b_callVi (Mc := m_TH_end) (As := [.int (S.2 (x3 + (1 : Int32)).toNatClampNeg)]) (st := []) d_Lw_law_253 ⟨⟨kA_TH_end.1, kA_TH_end.2.1, kA_TH_end.2.2, by decide⟩, ml_Lw_18, kV_TH_end⟩ (eg_0 σ) rfl rfl (Nat.le_of_ble_eq_true rfl) H (fun v52 τ53 H => ?_)
      refine b_aload_n d_Lw_law_256 rfl rfl ?_
      refine b_aload_nS d_Lw_law_257 rfl rfl ?_
      refine b_iload_n d_Lw_law_258 rfl rfl ?_
      refine b_iconst (v := (1 : Int32)) d_Lw_law_259 (by decide) ?_
      refine b_iadd d_Lw_law_260  ?_
      obtain ⟨h54, H⟩ := H
      refine b_sald d_Lw_law_261 h54 ?_
      refine b_callVi (Mc := m_Md_end) (As := [.int (S.2 (x3 + (1 : Int32)).toNatClampNeg)]) (st := [.int v52]) d_Lw_law_262 ⟨⟨kA_Md_end.1, kA_Md_end.2.1, kA_Md_end.2.2, by decide⟩, ml_Lw_22, kV_Md_end⟩ (eg_153 τ53) rfl rfl (Nat.le_of_ble_eq_true rfl) H (fun v55 τ56 H => ?_)
      refine b_icmp_eq (tgt := 1305) d_Lw_law_265 (by decide) (fun c57 => ?_) (fun c57 => ?_)
      · have H := H.1 c57
        exact b_mask [true, true, true, true] rfl H
      · have H := H.2 c57
        refine b_iconst (v := (0 : Int32)) d_Lw_law_268 (by decide) ?_
        exact b_iret (ty := .boolean) d_Lw_law_269 rfl rfl ⟨_, _, rfl, rfl, H⟩
    by_cases c4 : ((S.2 x3.toNatClampNeg) &&& (63 : Int32)) = (2 : Int32)
    · have H := H.2.2.1 c4
      refine b_tableIn (off := 237) (tgt := 270) d_Lw_law_33 (by rw [c4]; decide) (by rw [c4]; decide) (by rw [c4]; rfl) (by decide) ?_
      refine b_aload_n d_Lw_law_270 rfl rfl ?_
      refine b_aload_nS d_Lw_law_271 rfl rfl ?_
      refine b_iload_n d_Lw_law_272 rfl rfl ?_
      refine b_iconst (v := (1 : Int32)) d_Lw_law_273 (by decide) ?_
      refine b_iadd d_Lw_law_274  ?_
      obtain ⟨h58, H⟩ := H
      refine b_sald d_Lw_law_275 h58 ?_
      refine b_callVi (Mc := m_TH_paragraph) (As := [.int (S.2 (x3 + (1 : Int32)).toNatClampNeg)]) (st := []) d_Lw_law_276 ⟨⟨kA_TH_paragraph.1, kA_TH_paragraph.2.1, kA_TH_paragraph.2.2, by decide⟩, ml_Lw_23, kV_TH_paragraph⟩ (eg_0 σ) rfl rfl (Nat.le_of_ble_eq_true rfl) H (fun v59 τ60 H => ?_)
      refine b_aload_n d_Lw_law_279 rfl rfl ?_
      refine b_aload_nS d_Lw_law_280 rfl rfl ?_
      refine b_iload_n d_Lw_law_281 rfl rfl ?_
      refine b_iconst (v := (1 : Int32)) d_Lw_law_282 (by decide) ?_
      refine b_iadd d_Lw_law_283  ?_
      obtain ⟨h61, H⟩ := H
      refine b_sald d_Lw_law_284 h61 ?_
      refine b_callVi (Mc := m_Md_paragraph) (As := [.int (S.2 (x3 + (1 : Int32)).toNatClampNeg)]) (st := [.int v59]) d_Lw_law_285 ⟨⟨kA_Md_paragraph.1, kA_Md_paragraph.2.1, kA_Md_paragraph.2.2, by decide⟩, ml_Lw_27, kV_Md_paragraph⟩ (eg_153 τ60) rfl rfl (Nat.le_of_ble_eq_true rfl) H (fun v62 τ63 H => ?_)
      refine b_icmp_eq (tgt := 1305) d_Lw_law_288 (by decide) (fun c64 => ?_) (fun c64 => ?_)
      · have H := H.1 c64
        exact b_mask [true, true, true, true] rfl H
      · have H := H.2 c64
        refine b_iconst (v := (0 : Int32)) d_Lw_law_291 (by decide) ?_
        exact b_iret (ty := .boolean) d_Lw_law_292 rfl rfl ⟨_, _, rfl, rfl, H⟩
    by_cases c5 : ((S.2 x3.toNatClampNeg) &&& (63 : Int32)) = (3 : Int32)
    · have H := H.2.2.2.1 c5
      refine b_tableIn (off := 260) (tgt := 293) d_Lw_law_33 (by rw [c5]; decide) (by rw [c5]; decide) (by rw [c5]; rfl) (by decide) ?_
      refine b_aload_n d_Lw_law_293 rfl rfl ?_
      refine b_aload_nS d_Lw_law_294 rfl rfl ?_
      refine b_iload_n d_Lw_law_295 rfl rfl ?_
      refine b_iconst (v := (1 : Int32)) d_Lw_law_296 (by decide) ?_
      refine b_iadd d_Lw_law_297  ?_
      obtain ⟨h65, H⟩ := H
      refine b_sald d_Lw_law_298 h65 ?_
      refine b_callVi (Mc := m_TH_word) (As := [.int (S.2 (x3 + (1 : Int32)).toNatClampNeg)]) (st := []) d_Lw_law_299 ⟨⟨kA_TH_word.1, kA_TH_word.2.1, kA_TH_word.2.2, by decide⟩, ml_Lw_28, kV_TH_word⟩ (eg_0 σ) rfl rfl (Nat.le_of_ble_eq_true rfl) H (fun v66 τ67 H => ?_)
      refine b_aload_n d_Lw_law_302 rfl rfl ?_
      refine b_aload_nS d_Lw_law_303 rfl rfl ?_
      refine b_iload_n d_Lw_law_304 rfl rfl ?_
      refine b_iconst (v := (1 : Int32)) d_Lw_law_305 (by decide) ?_
      refine b_iadd d_Lw_law_306  ?_
      obtain ⟨h68, H⟩ := H
      refine b_sald d_Lw_law_307 h68 ?_
      refine b_callVi (Mc := m_Md_word) (As := [.int (S.2 (x3 + (1 : Int32)).toNatClampNeg)]) (st := [.int v66]) d_Lw_law_308 ⟨⟨kA_Md_word.1, kA_Md_word.2.1, kA_Md_word.2.2, by decide⟩, ml_Lw_31, kV_Md_word⟩ (eg_153 τ67) rfl rfl (Nat.le_of_ble_eq_true rfl) H (fun v69 τ70 H => ?_)
      refine b_icmp_eq (tgt := 1305) d_Lw_law_311 (by decide) (fun c71 => ?_) (fun c71 => ?_)
      · have H := H.1 c71
        exact b_mask [true, true, true, true] rfl H
      · have H := H.2 c71
        refine b_iconst (v := (0 : Int32)) d_Lw_law_314 (by decide) ?_
        exact b_iret (ty := .boolean) d_Lw_law_315 rfl rfl ⟨_, _, rfl, rfl, H⟩
    by_cases c6 : ((S.2 x3.toNatClampNeg) &&& (63 : Int32)) = (4 : Int32)
    · have H := H.2.2.2.2.1 c6
      refine b_tableIn (off := 283) (tgt := 316) d_Lw_law_33 (by rw [c6]; decide) (by rw [c6]; decide) (by rw [c6]; rfl) (by decide) ?_
      refine b_aload_n d_Lw_law_316 rfl rfl ?_
      refine b_callVi (Mc := m_TH_clear) (As := []) (st := []) d_Lw_law_317 ⟨⟨kA_TH_clear.1, kA_TH_clear.2.1, kA_TH_clear.2.2, by decide⟩, ml_Lw_32, kV_TH_clear⟩ (eg_0 σ) rfl rfl (Nat.le_of_ble_eq_true rfl) H (fun v72 τ73 H => ?_)
      refine b_aload_n d_Lw_law_320 rfl rfl ?_
      refine b_callVi (Mc := m_Md_clear) (As := []) (st := [.int v72]) d_Lw_law_321 ⟨⟨kA_Md_clear.1, kA_Md_clear.2.1, kA_Md_clear.2.2, by decide⟩, ml_Lw_36, kV_Md_clear⟩ (eg_153 τ73) rfl rfl (Nat.le_of_ble_eq_true rfl) H (fun v74 τ75 H => ?_)
      refine b_icmp_eq (tgt := 1305) d_Lw_law_324 (by decide) (fun c76 => ?_) (fun c76 => ?_)
      · have H := H.1 c76
        exact b_mask [true, true, true, true] rfl H
      · have H := H.2 c76
        refine b_iconst (v := (0 : Int32)) d_Lw_law_327 (by decide) ?_
        exact b_iret (ty := .boolean) d_Lw_law_328 rfl rfl ⟨_, _, rfl, rfl, H⟩
    by_cases c7 : ((S.2 x3.toNatClampNeg) &&& (63 : Int32)) = (5 : Int32)
    · have H := H.2.2.2.2.2.1 c7
      refine b_tableIn (off := 296) (tgt := 329) d_Lw_law_33 (by rw [c7]; decide) (by rw [c7]; decide) (by rw [c7]; rfl) (by decide) ?_
      refine b_aload_n d_Lw_law_329 rfl rfl ?_
      refine b_aload_nS d_Lw_law_330 rfl rfl ?_
      refine b_iload_n d_Lw_law_331 rfl rfl ?_
      refine b_iconst (v := (1 : Int32)) d_Lw_law_332 (by decide) ?_
      refine b_iadd d_Lw_law_333  ?_
      obtain ⟨h77, H⟩ := H
      refine b_sald d_Lw_law_334 h77 ?_
      refine b_aload_nS d_Lw_law_335 rfl rfl ?_
      refine b_iload_n d_Lw_law_336 rfl rfl ?_
      refine b_iconst (v := (2 : Int32)) d_Lw_law_337 (by decide) ?_
      refine b_iadd d_Lw_law_338  ?_
      obtain ⟨h78, H⟩ := H
      refine b_sald d_Lw_law_339 h78 ?_
      refine b_aload_nS d_Lw_law_340 rfl rfl ?_
      refine b_iload_n d_Lw_law_341 rfl rfl ?_
      refine b_iconst (v := (3 : Int32)) d_Lw_law_342 (by decide) ?_
      refine b_iadd d_Lw_law_343  ?_
      obtain ⟨h79, H⟩ := H
      refine b_sald d_Lw_law_344 h79 ?_
      refine b_aload_nS d_Lw_law_345 rfl rfl ?_
      refine b_iload_n d_Lw_law_346 rfl rfl ?_
      refine b_iconst (v := (4 : Int32)) d_Lw_law_347 (by decide) ?_
      refine b_iadd d_Lw_law_348  ?_
      obtain ⟨h80, H⟩ := H
      refine b_sald d_Lw_law_349 h80 ?_
      refine b_callVi (Mc := m_TH_page) (As := [.int (S.2 (x3 + (1 : Int32)).toNatClampNeg), .int (S.2 (x3 + (2 : Int32)).toNatClampNeg), .int (S.2 (x3 + (3 : Int32)).toNatClampNeg), .int (S.2 (x3 + (4 : Int32)).toNatClampNeg)]) (st := []) d_Lw_law_350 ⟨⟨kA_TH_page.1, kA_TH_page.2.1, kA_TH_page.2.2, by decide⟩, ml_Lw_37, kV_TH_page⟩ (eg_0 σ) rfl rfl (Nat.le_of_ble_eq_true rfl) H (fun v81 τ82 H => ?_)
      refine b_aload_n d_Lw_law_353 rfl rfl ?_
      refine b_aload_nS d_Lw_law_354 rfl rfl ?_
      refine b_iload_n d_Lw_law_355 rfl rfl ?_
      refine b_iconst (v := (1 : Int32)) d_Lw_law_356 (by decide) ?_
      refine b_iadd d_Lw_law_357  ?_
      obtain ⟨h83, H⟩ := H
      refine b_sald d_Lw_law_358 h83 ?_
      refine b_aload_nS d_Lw_law_359 rfl rfl ?_
      refine b_iload_n d_Lw_law_360 rfl rfl ?_
      refine b_iconst (v := (2 : Int32)) d_Lw_law_361 (by decide) ?_
      refine b_iadd d_Lw_law_362  ?_
      obtain ⟨h84, H⟩ := H
      refine b_sald d_Lw_law_363 h84 ?_
      refine b_aload_nS d_Lw_law_364 rfl rfl ?_
      refine b_iload_n d_Lw_law_365 rfl rfl ?_
      refine b_iconst (v := (3 : Int32)) d_Lw_law_366 (by decide) ?_
      refine b_iadd d_Lw_law_367  ?_
      obtain ⟨h85, H⟩ := H
      refine b_sald d_Lw_law_368 h85 ?_
      refine b_aload_nS d_Lw_law_369 rfl rfl ?_
      refine b_iload_n d_Lw_law_370 rfl rfl ?_
      refine b_iconst (v := (4 : Int32)) d_Lw_law_371 (by decide) ?_
      refine b_iadd d_Lw_law_372  ?_
      obtain ⟨h86, H⟩ := H
      refine b_sald d_Lw_law_373 h86 ?_
      refine b_callVi (Mc := m_Md_page) (As := [.int (S.2 (x3 + (1 : Int32)).toNatClampNeg), .int (S.2 (x3 + (2 : Int32)).toNatClampNeg), .int (S.2 (x3 + (3 : Int32)).toNatClampNeg), .int (S.2 (x3 + (4 : Int32)).toNatClampNeg)]) (st := [.int v81]) d_Lw_law_374 ⟨⟨kA_Md_page.1, kA_Md_page.2.1, kA_Md_page.2.2, by decide⟩, ml_Lw_41, kV_Md_page⟩ (eg_153 τ82) rfl rfl (Nat.le_of_ble_eq_true rfl) H (fun v87 τ88 H => ?_)
      refine b_icmp_eq (tgt := 1305) d_Lw_law_377 (by decide) (fun c89 => ?_) (fun c89 => ?_)
      · have H := H.1 c89
        exact b_mask [true, true, true, true] rfl H
      · have H := H.2 c89
        refine b_iconst (v := (0 : Int32)) d_Lw_law_380 (by decide) ?_
        exact b_iret (ty := .boolean) d_Lw_law_381 rfl rfl ⟨_, _, rfl, rfl, H⟩
    by_cases c8 : ((S.2 x3.toNatClampNeg) &&& (63 : Int32)) = (6 : Int32)
    · have H := H.2.2.2.2.2.2.1 c8
      refine b_tableIn (off := 349) (tgt := 382) d_Lw_law_33 (by rw [c8]; decide) (by rw [c8]; decide) (by rw [c8]; rfl) (by decide) ?_
      refine b_aload_n d_Lw_law_382 rfl rfl ?_
      refine b_aload_nS d_Lw_law_383 rfl rfl ?_
      refine b_iload_n d_Lw_law_384 rfl rfl ?_
      refine b_iconst (v := (1 : Int32)) d_Lw_law_385 (by decide) ?_
      refine b_iadd d_Lw_law_386  ?_
      obtain ⟨h90, H⟩ := H
      refine b_sald d_Lw_law_387 h90 ?_
      refine b_aload_nS d_Lw_law_388 rfl rfl ?_
      refine b_iload_n d_Lw_law_389 rfl rfl ?_
      refine b_iconst (v := (2 : Int32)) d_Lw_law_390 (by decide) ?_
      refine b_iadd d_Lw_law_391  ?_
      obtain ⟨h91, H⟩ := H
      refine b_sald d_Lw_law_392 h91 ?_
      refine b_callVi (Mc := m_TH_lines) (As := [.int (S.2 (x3 + (1 : Int32)).toNatClampNeg), .int (S.2 (x3 + (2 : Int32)).toNatClampNeg)]) (st := []) d_Lw_law_393 ⟨⟨kA_TH_lines.1, kA_TH_lines.2.1, kA_TH_lines.2.2, by decide⟩, ml_Lw_42, kV_TH_lines⟩ (eg_0 σ) rfl rfl (Nat.le_of_ble_eq_true rfl) H (fun v92 τ93 H => ?_)
      refine b_aload_n d_Lw_law_396 rfl rfl ?_
      refine b_aload_nS d_Lw_law_397 rfl rfl ?_
      refine b_iload_n d_Lw_law_398 rfl rfl ?_
      refine b_iconst (v := (1 : Int32)) d_Lw_law_399 (by decide) ?_
      refine b_iadd d_Lw_law_400  ?_
      obtain ⟨h94, H⟩ := H
      refine b_sald d_Lw_law_401 h94 ?_
      refine b_aload_nS d_Lw_law_402 rfl rfl ?_
      refine b_iload_n d_Lw_law_403 rfl rfl ?_
      refine b_iconst (v := (2 : Int32)) d_Lw_law_404 (by decide) ?_
      refine b_iadd d_Lw_law_405  ?_
      obtain ⟨h95, H⟩ := H
      refine b_sald d_Lw_law_406 h95 ?_
      refine b_callVi (Mc := m_Md_lines) (As := [.int (S.2 (x3 + (1 : Int32)).toNatClampNeg), .int (S.2 (x3 + (2 : Int32)).toNatClampNeg)]) (st := [.int v92]) d_Lw_law_407 ⟨⟨kA_Md_lines.1, kA_Md_lines.2.1, kA_Md_lines.2.2, by decide⟩, ml_Lw_46, kV_Md_lines⟩ (eg_153 τ93) rfl rfl (Nat.le_of_ble_eq_true rfl) H (fun v96 τ97 H => ?_)
      refine b_icmp_eq (tgt := 1305) d_Lw_law_410 (by decide) (fun c98 => ?_) (fun c98 => ?_)
      · have H := H.1 c98
        exact b_mask [true, true, true, true] rfl H
      · have H := H.2 c98
        refine b_iconst (v := (0 : Int32)) d_Lw_law_413 (by decide) ?_
        exact b_iret (ty := .boolean) d_Lw_law_414 rfl rfl ⟨_, _, rfl, rfl, H⟩
    by_cases c9 : ((S.2 x3.toNatClampNeg) &&& (63 : Int32)) = (7 : Int32)
    · have H := H.2.2.2.2.2.2.2.1 c9
      refine b_tableIn (off := 382) (tgt := 415) d_Lw_law_33 (by rw [c9]; decide) (by rw [c9]; decide) (by rw [c9]; rfl) (by decide) ?_
      refine b_aload_n d_Lw_law_415 rfl rfl ?_
      refine b_aload_nS d_Lw_law_416 rfl rfl ?_
      refine b_iload_n d_Lw_law_417 rfl rfl ?_
      refine b_iconst (v := (1 : Int32)) d_Lw_law_418 (by decide) ?_
      refine b_iadd d_Lw_law_419  ?_
      obtain ⟨h99, H⟩ := H
      refine b_sald d_Lw_law_420 h99 ?_
      refine b_callVi (Mc := m_TH_fill) (As := [.int (S.2 (x3 + (1 : Int32)).toNatClampNeg)]) (st := []) d_Lw_law_421 ⟨⟨kA_TH_fill.1, kA_TH_fill.2.1, kA_TH_fill.2.2, by decide⟩, ml_Lw_47, kV_TH_fill⟩ (eg_0 σ) rfl rfl (Nat.le_of_ble_eq_true rfl) H (fun v100 τ101 H => ?_)
      refine b_aload_n d_Lw_law_424 rfl rfl ?_
      refine b_aload_nS d_Lw_law_425 rfl rfl ?_
      refine b_iload_n d_Lw_law_426 rfl rfl ?_
      refine b_iconst (v := (1 : Int32)) d_Lw_law_427 (by decide) ?_
      refine b_iadd d_Lw_law_428  ?_
      obtain ⟨h102, H⟩ := H
      refine b_sald d_Lw_law_429 h102 ?_
      refine b_callVi (Mc := m_Md_fill) (As := [.int (S.2 (x3 + (1 : Int32)).toNatClampNeg)]) (st := [.int v100]) d_Lw_law_430 ⟨⟨kA_Md_fill.1, kA_Md_fill.2.1, kA_Md_fill.2.2, by decide⟩, ml_Lw_50, kV_Md_fill⟩ (eg_153 τ101) rfl rfl (Nat.le_of_ble_eq_true rfl) H (fun v103 τ104 H => ?_)
      refine b_icmp_eq (tgt := 1305) d_Lw_law_433 (by decide) (fun c105 => ?_) (fun c105 => ?_)
      · have H := H.1 c105
        exact b_mask [true, true, true, true] rfl H
      · have H := H.2 c105
        refine b_iconst (v := (0 : Int32)) d_Lw_law_436 (by decide) ?_
        exact b_iret (ty := .boolean) d_Lw_law_437 rfl rfl ⟨_, _, rfl, rfl, H⟩
    by_cases c10 : ((S.2 x3.toNatClampNeg) &&& (63 : Int32)) = (8 : Int32)
    · have H := H.2.2.2.2.2.2.2.2.1 c10
      refine b_tableIn (off := 405) (tgt := 438) d_Lw_law_33 (by rw [c10]; decide) (by rw [c10]; decide) (by rw [c10]; rfl) (by decide) ?_
      refine b_aload_n d_Lw_law_438 rfl rfl ?_
      refine b_aload_nS d_Lw_law_439 rfl rfl ?_
      refine b_iload_n d_Lw_law_440 rfl rfl ?_
      refine b_iconst (v := (1 : Int32)) d_Lw_law_441 (by decide) ?_
      refine b_iadd d_Lw_law_442  ?_
      obtain ⟨h106, H⟩ := H
      refine b_sald d_Lw_law_443 h106 ?_
      refine b_aload_nS d_Lw_law_444 rfl rfl ?_
      refine b_iload_n d_Lw_law_445 rfl rfl ?_
      refine b_iconst (v := (2 : Int32)) d_Lw_law_446 (by decide) ?_
      refine b_iadd d_Lw_law_447  ?_
      obtain ⟨h107, H⟩ := H
      refine b_sald d_Lw_law_448 h107 ?_
      refine b_callVi (Mc := m_TH_set) (As := [.int (S.2 (x3 + (1 : Int32)).toNatClampNeg), .int (S.2 (x3 + (2 : Int32)).toNatClampNeg)]) (st := []) d_Lw_law_449 ⟨⟨kA_TH_set.1, kA_TH_set.2.1, kA_TH_set.2.2, by decide⟩, ml_Lw_51, kV_TH_set⟩ (eg_0 σ) rfl rfl (Nat.le_of_ble_eq_true rfl) H (fun v108 τ109 H => ?_)
      refine b_aload_n d_Lw_law_452 rfl rfl ?_
      refine b_aload_nS d_Lw_law_453 rfl rfl ?_
      refine b_iload_n d_Lw_law_454 rfl rfl ?_
      refine b_iconst (v := (1 : Int32)) d_Lw_law_455 (by decide) ?_
      refine b_iadd d_Lw_law_456  ?_
      obtain ⟨h110, H⟩ := H
      refine b_sald d_Lw_law_457 h110 ?_
      refine b_aload_nS d_Lw_law_458 rfl rfl ?_
      refine b_iload_n d_Lw_law_459 rfl rfl ?_
      refine b_iconst (v := (2 : Int32)) d_Lw_law_460 (by decide) ?_
      refine b_iadd d_Lw_law_461  ?_
      obtain ⟨h111, H⟩ := H
      refine b_sald d_Lw_law_462 h111 ?_
      refine b_callVi (Mc := m_Md_set) (As := [.int (S.2 (x3 + (1 : Int32)).toNatClampNeg), .int (S.2 (x3 + (2 : Int32)).toNatClampNeg)]) (st := [.int v108]) d_Lw_law_463 ⟨⟨kA_Md_set.1, kA_Md_set.2.1, kA_Md_set.2.2, by decide⟩, ml_Lw_54, kV_Md_set⟩ (eg_153 τ109) rfl rfl (Nat.le_of_ble_eq_true rfl) H (fun v112 τ113 H => ?_)
      refine b_icmp_eq (tgt := 1305) d_Lw_law_466 (by decide) (fun c114 => ?_) (fun c114 => ?_)
      · have H := H.1 c114
        exact b_mask [true, true, true, true] rfl H
      · have H := H.2 c114
        refine b_iconst (v := (0 : Int32)) d_Lw_law_469 (by decide) ?_
        exact b_iret (ty := .boolean) d_Lw_law_470 rfl rfl ⟨_, _, rfl, rfl, H⟩
    by_cases c11 : ((S.2 x3.toNatClampNeg) &&& (63 : Int32)) = (9 : Int32)
    · have H := H.2.2.2.2.2.2.2.2.2.1 c11
      refine b_tableIn (off := 438) (tgt := 471) d_Lw_law_33 (by rw [c11]; decide) (by rw [c11]; decide) (by rw [c11]; rfl) (by decide) ?_
      refine b_aload_n d_Lw_law_471 rfl rfl ?_
      refine b_aload_nS d_Lw_law_472 rfl rfl ?_
      refine b_iload_n d_Lw_law_473 rfl rfl ?_
      refine b_iconst (v := (1 : Int32)) d_Lw_law_474 (by decide) ?_
      refine b_iadd d_Lw_law_475  ?_
      obtain ⟨h115, H⟩ := H
      refine b_sald d_Lw_law_476 h115 ?_
      refine b_aload_nS d_Lw_law_477 rfl rfl ?_
      refine b_iload_n d_Lw_law_478 rfl rfl ?_
      refine b_iconst (v := (2 : Int32)) d_Lw_law_479 (by decide) ?_
      refine b_iadd d_Lw_law_480  ?_
      obtain ⟨h116, H⟩ := H
      refine b_sald d_Lw_law_481 h116 ?_
      refine b_callVi (Mc := m_TH_line) (As := [.int (S.2 (x3 + (1 : Int32)).toNatClampNeg), .int (S.2 (x3 + (2 : Int32)).toNatClampNeg)]) (st := []) d_Lw_law_482 ⟨⟨kA_TH_line.1, kA_TH_line.2.1, kA_TH_line.2.2, by decide⟩, ml_Lw_55, kV_TH_line⟩ (eg_0 σ) rfl rfl (Nat.le_of_ble_eq_true rfl) H (fun v117 τ118 H => ?_)
      refine b_aload_n d_Lw_law_485 rfl rfl ?_
      refine b_aload_nS d_Lw_law_486 rfl rfl ?_
      refine b_iload_n d_Lw_law_487 rfl rfl ?_
      refine b_iconst (v := (1 : Int32)) d_Lw_law_488 (by decide) ?_
      refine b_iadd d_Lw_law_489  ?_
      obtain ⟨h119, H⟩ := H
      refine b_sald d_Lw_law_490 h119 ?_
      refine b_aload_nS d_Lw_law_491 rfl rfl ?_
      refine b_iload_n d_Lw_law_492 rfl rfl ?_
      refine b_iconst (v := (2 : Int32)) d_Lw_law_493 (by decide) ?_
      refine b_iadd d_Lw_law_494  ?_
      obtain ⟨h120, H⟩ := H
      refine b_sald d_Lw_law_495 h120 ?_
      refine b_callVi (Mc := m_Md_line) (As := [.int (S.2 (x3 + (1 : Int32)).toNatClampNeg), .int (S.2 (x3 + (2 : Int32)).toNatClampNeg)]) (st := [.int v117]) d_Lw_law_496 ⟨⟨kA_Md_line.1, kA_Md_line.2.1, kA_Md_line.2.2, by decide⟩, ml_Lw_58, kV_Md_line⟩ (eg_153 τ118) rfl rfl (Nat.le_of_ble_eq_true rfl) H (fun v121 τ122 H => ?_)
      refine b_icmp_eq (tgt := 1305) d_Lw_law_499 (by decide) (fun c123 => ?_) (fun c123 => ?_)
      · have H := H.1 c123
        exact b_mask [true, true, true, true] rfl H
      · have H := H.2 c123
        refine b_iconst (v := (0 : Int32)) d_Lw_law_502 (by decide) ?_
        exact b_iret (ty := .boolean) d_Lw_law_503 rfl rfl ⟨_, _, rfl, rfl, H⟩
    by_cases c12 : ((S.2 x3.toNatClampNeg) &&& (63 : Int32)) = (10 : Int32)
    · have H := H.2.2.2.2.2.2.2.2.2.2.1 c12
      refine b_tableIn (off := 471) (tgt := 504) d_Lw_law_33 (by rw [c12]; decide) (by rw [c12]; decide) (by rw [c12]; rfl) (by decide) ?_
      refine b_aload_n d_Lw_law_504 rfl rfl ?_
      refine b_aload_nS d_Lw_law_505 rfl rfl ?_
      refine b_iload_n d_Lw_law_506 rfl rfl ?_
      refine b_iconst (v := (1 : Int32)) d_Lw_law_507 (by decide) ?_
      refine b_iadd d_Lw_law_508  ?_
      obtain ⟨h124, H⟩ := H
      refine b_sald d_Lw_law_509 h124 ?_
      refine b_aload_nS d_Lw_law_510 rfl rfl ?_
      refine b_iload_n d_Lw_law_511 rfl rfl ?_
      refine b_iconst (v := (2 : Int32)) d_Lw_law_512 (by decide) ?_
      refine b_iadd d_Lw_law_513  ?_
      obtain ⟨h125, H⟩ := H
      refine b_sald d_Lw_law_514 h125 ?_
      refine b_callVi (Mc := m_TH_fact) (As := [.int (S.2 (x3 + (1 : Int32)).toNatClampNeg), .int (S.2 (x3 + (2 : Int32)).toNatClampNeg)]) (st := []) d_Lw_law_515 ⟨⟨kA_TH_fact.1, kA_TH_fact.2.1, kA_TH_fact.2.2, by decide⟩, ml_Lw_59, kV_TH_fact⟩ (eg_0 σ) rfl rfl (Nat.le_of_ble_eq_true rfl) H (fun v126 τ127 H => ?_)
      refine b_aload_n d_Lw_law_518 rfl rfl ?_
      refine b_aload_nS d_Lw_law_519 rfl rfl ?_
      refine b_iload_n d_Lw_law_520 rfl rfl ?_
      refine b_iconst (v := (1 : Int32)) d_Lw_law_521 (by decide) ?_
      refine b_iadd d_Lw_law_522  ?_
      obtain ⟨h128, H⟩ := H
      refine b_sald d_Lw_law_523 h128 ?_
      refine b_aload_nS d_Lw_law_524 rfl rfl ?_
      refine b_iload_n d_Lw_law_525 rfl rfl ?_
      refine b_iconst (v := (2 : Int32)) d_Lw_law_526 (by decide) ?_
      refine b_iadd d_Lw_law_527  ?_
      obtain ⟨h129, H⟩ := H
      refine b_sald d_Lw_law_528 h129 ?_
      refine b_callVi (Mc := m_Md_fact) (As := [.int (S.2 (x3 + (1 : Int32)).toNatClampNeg), .int (S.2 (x3 + (2 : Int32)).toNatClampNeg)]) (st := [.int v126]) d_Lw_law_529 ⟨⟨kA_Md_fact.1, kA_Md_fact.2.1, kA_Md_fact.2.2, by decide⟩, ml_Lw_62, kV_Md_fact⟩ (eg_153 τ127) rfl rfl (Nat.le_of_ble_eq_true rfl) H (fun v130 τ131 H => ?_)
      refine b_icmp_eq (tgt := 1305) d_Lw_law_532 (by decide) (fun c132 => ?_) (fun c132 => ?_)
      · have H := H.1 c132
        exact b_mask [true, true, true, true] rfl H
      · have H := H.2 c132
        refine b_iconst (v := (0 : Int32)) d_Lw_law_535 (by decide) ?_
        exact b_iret (ty := .boolean) d_Lw_law_536 rfl rfl ⟨_, _, rfl, rfl, H⟩
    by_cases c13 : ((S.2 x3.toNatClampNeg) &&& (63 : Int32)) = (11 : Int32)
    · have H := H.2.2.2.2.2.2.2.2.2.2.2.1 c13
      refine b_tableIn (off := 504) (tgt := 537) d_Lw_law_33 (by rw [c13]; decide) (by rw [c13]; decide) (by rw [c13]; rfl) (by decide) ?_
      refine b_aload_n d_Lw_law_537 rfl rfl ?_
      refine b_aload_nS d_Lw_law_538 rfl rfl ?_
      refine b_iload_n d_Lw_law_539 rfl rfl ?_
      refine b_iconst (v := (1 : Int32)) d_Lw_law_540 (by decide) ?_
      refine b_iadd d_Lw_law_541  ?_
      obtain ⟨h133, H⟩ := H
      refine b_sald d_Lw_law_542 h133 ?_
      refine b_callVi (Mc := m_TH_fault) (As := [.int (S.2 (x3 + (1 : Int32)).toNatClampNeg)]) (st := []) d_Lw_law_543 ⟨⟨kA_TH_fault.1, kA_TH_fault.2.1, kA_TH_fault.2.2, by decide⟩, ml_Lw_63, kV_TH_fault⟩ (eg_0 σ) rfl rfl (Nat.le_of_ble_eq_true rfl) H (fun v134 τ135 H => ?_)
      refine b_aload_n d_Lw_law_546 rfl rfl ?_
      refine b_aload_nS d_Lw_law_547 rfl rfl ?_
      refine b_iload_n d_Lw_law_548 rfl rfl ?_
      refine b_iconst (v := (1 : Int32)) d_Lw_law_549 (by decide) ?_
      refine b_iadd d_Lw_law_550  ?_
      obtain ⟨h136, H⟩ := H
      refine b_sald d_Lw_law_551 h136 ?_
      refine b_callVi (Mc := m_Md_fault) (As := [.int (S.2 (x3 + (1 : Int32)).toNatClampNeg)]) (st := [.int v134]) d_Lw_law_552 ⟨⟨kA_Md_fault.1, kA_Md_fault.2.1, kA_Md_fault.2.2, by decide⟩, ml_Lw_66, kV_Md_fault⟩ (eg_153 τ135) rfl rfl (Nat.le_of_ble_eq_true rfl) H (fun v137 τ138 H => ?_)
      refine b_icmp_eq (tgt := 1305) d_Lw_law_555 (by decide) (fun c139 => ?_) (fun c139 => ?_)
      · have H := H.1 c139
        exact b_mask [true, true, true, true] rfl H
      · have H := H.2 c139
        refine b_iconst (v := (0 : Int32)) d_Lw_law_558 (by decide) ?_
        exact b_iret (ty := .boolean) d_Lw_law_559 rfl rfl ⟨_, _, rfl, rfl, H⟩
    by_cases c14 : ((S.2 x3.toNatClampNeg) &&& (63 : Int32)) = (12 : Int32)
    · have H := H.2.2.2.2.2.2.2.2.2.2.2.2.1 c14
      refine b_tableIn (off := 527) (tgt := 560) d_Lw_law_33 (by rw [c14]; decide) (by rw [c14]; decide) (by rw [c14]; rfl) (by decide) ?_
      refine b_aload_n d_Lw_law_560 rfl rfl ?_
      refine b_aload_nS d_Lw_law_561 rfl rfl ?_
      refine b_iload_n d_Lw_law_562 rfl rfl ?_
      refine b_iconst (v := (1 : Int32)) d_Lw_law_563 (by decide) ?_
      refine b_iadd d_Lw_law_564  ?_
      obtain ⟨h140, H⟩ := H
      refine b_sald d_Lw_law_565 h140 ?_
      refine b_aload_nS d_Lw_law_566 rfl rfl ?_
      refine b_iload_n d_Lw_law_567 rfl rfl ?_
      refine b_iconst (v := (2 : Int32)) d_Lw_law_568 (by decide) ?_
      refine b_iadd d_Lw_law_569  ?_
      obtain ⟨h141, H⟩ := H
      refine b_sald d_Lw_law_570 h141 ?_
      refine b_callVi (Mc := m_TH_strike) (As := [.int (S.2 (x3 + (1 : Int32)).toNatClampNeg), .int (S.2 (x3 + (2 : Int32)).toNatClampNeg)]) (st := []) d_Lw_law_571 ⟨⟨kA_TH_strike.1, kA_TH_strike.2.1, kA_TH_strike.2.2, by decide⟩, ml_Lw_67, kV_TH_strike⟩ (eg_0 σ) rfl rfl (Nat.le_of_ble_eq_true rfl) H (fun v142 τ143 H => ?_)
      refine b_aload_n d_Lw_law_574 rfl rfl ?_
      refine b_aload_nS d_Lw_law_575 rfl rfl ?_
      refine b_iload_n d_Lw_law_576 rfl rfl ?_
      refine b_iconst (v := (1 : Int32)) d_Lw_law_577 (by decide) ?_
      refine b_iadd d_Lw_law_578  ?_
      obtain ⟨h144, H⟩ := H
      refine b_sald d_Lw_law_579 h144 ?_
      refine b_aload_nS d_Lw_law_580 rfl rfl ?_
      refine b_iload_n d_Lw_law_581 rfl rfl ?_
      refine b_iconst (v := (2 : Int32)) d_Lw_law_582 (by decide) ?_
      refine b_iadd d_Lw_law_583  ?_
      obtain ⟨h145, H⟩ := H
      refine b_sald d_Lw_law_584 h145 ?_
      refine b_callVi (Mc := m_Md_strike) (As := [.int (S.2 (x3 + (1 : Int32)).toNatClampNeg), .int (S.2 (x3 + (2 : Int32)).toNatClampNeg)]) (st := [.int v142]) d_Lw_law_585 ⟨⟨kA_Md_strike.1, kA_Md_strike.2.1, kA_Md_strike.2.2, by decide⟩, ml_Lw_71, kV_Md_strike⟩ (eg_153 τ143) rfl rfl (Nat.le_of_ble_eq_true rfl) H (fun v146 τ147 H => ?_)
      refine b_icmp_eq (tgt := 1305) d_Lw_law_588 (by decide) (fun c148 => ?_) (fun c148 => ?_)
      · have H := H.1 c148
        exact b_mask [true, true, true, true] rfl H
      · have H := H.2 c148
        refine b_iconst (v := (0 : Int32)) d_Lw_law_591 (by decide) ?_
        exact b_iret (ty := .boolean) d_Lw_law_592 rfl rfl ⟨_, _, rfl, rfl, H⟩
    by_cases c15 : ((S.2 x3.toNatClampNeg) &&& (63 : Int32)) = (13 : Int32)
    · have H := H.2.2.2.2.2.2.2.2.2.2.2.2.2.1 c15
      refine b_tableIn (off := 560) (tgt := 593) d_Lw_law_33 (by rw [c15]; decide) (by rw [c15]; decide) (by rw [c15]; rfl) (by decide) ?_
      refine b_aload_n d_Lw_law_593 rfl rfl ?_
      refine b_aload_nS d_Lw_law_594 rfl rfl ?_
      refine b_iload_n d_Lw_law_595 rfl rfl ?_
      refine b_iconst (v := (1 : Int32)) d_Lw_law_596 (by decide) ?_
      refine b_iadd d_Lw_law_597  ?_
      obtain ⟨h149, H⟩ := H
      refine b_sald d_Lw_law_598 h149 ?_
      refine b_aload_nS d_Lw_law_599 rfl rfl ?_
      refine b_iload_n d_Lw_law_600 rfl rfl ?_
      refine b_iconst (v := (2 : Int32)) d_Lw_law_601 (by decide) ?_
      refine b_iadd d_Lw_law_602  ?_
      obtain ⟨h150, H⟩ := H
      refine b_sald d_Lw_law_603 h150 ?_
      refine b_callVi (Mc := m_TH_quarrel) (As := [.int (S.2 (x3 + (1 : Int32)).toNatClampNeg), .int (S.2 (x3 + (2 : Int32)).toNatClampNeg)]) (st := []) d_Lw_law_604 ⟨⟨kA_TH_quarrel.1, kA_TH_quarrel.2.1, kA_TH_quarrel.2.2, by decide⟩, ml_Lw_72, kV_TH_quarrel⟩ (eg_0 σ) rfl rfl (Nat.le_of_ble_eq_true rfl) H (fun v151 τ152 H => ?_)
      refine b_aload_n d_Lw_law_607 rfl rfl ?_
      refine b_aload_nS d_Lw_law_608 rfl rfl ?_
      refine b_iload_n d_Lw_law_609 rfl rfl ?_
      refine b_iconst (v := (1 : Int32)) d_Lw_law_610 (by decide) ?_
      refine b_iadd d_Lw_law_611  ?_
      obtain ⟨h153, H⟩ := H
      refine b_sald d_Lw_law_612 h153 ?_
      refine b_aload_nS d_Lw_law_613 rfl rfl ?_
      refine b_iload_n d_Lw_law_614 rfl rfl ?_
      refine b_iconst (v := (2 : Int32)) d_Lw_law_615 (by decide) ?_
      refine b_iadd d_Lw_law_616  ?_
      obtain ⟨h154, H⟩ := H
      refine b_sald d_Lw_law_617 h154 ?_
      refine b_callVi (Mc := m_Md_quarrel) (As := [.int (S.2 (x3 + (1 : Int32)).toNatClampNeg), .int (S.2 (x3 + (2 : Int32)).toNatClampNeg)]) (st := [.int v151]) d_Lw_law_618 ⟨⟨kA_Md_quarrel.1, kA_Md_quarrel.2.1, kA_Md_quarrel.2.2, by decide⟩, ml_Lw_75, kV_Md_quarrel⟩ (eg_153 τ152) rfl rfl (Nat.le_of_ble_eq_true rfl) H (fun v155 τ156 H => ?_)
      refine b_icmp_eq (tgt := 1305) d_Lw_law_621 (by decide) (fun c157 => ?_) (fun c157 => ?_)
      · have H := H.1 c157
        exact b_mask [true, true, true, true] rfl H
      · have H := H.2 c157
        refine b_iconst (v := (0 : Int32)) d_Lw_law_624 (by decide) ?_
        exact b_iret (ty := .boolean) d_Lw_law_625 rfl rfl ⟨_, _, rfl, rfl, H⟩
    by_cases c16 : ((S.2 x3.toNatClampNeg) &&& (63 : Int32)) = (14 : Int32)
    · have H := H.2.2.2.2.2.2.2.2.2.2.2.2.2.2.1 c16
      refine b_tableIn (off := 593) (tgt := 626) d_Lw_law_33 (by rw [c16]; decide) (by rw [c16]; decide) (by rw [c16]; rfl) (by decide) ?_
      refine b_aload_n d_Lw_law_626 rfl rfl ?_
      refine b_aload_nS d_Lw_law_627 rfl rfl ?_
      refine b_iload_n d_Lw_law_628 rfl rfl ?_
      refine b_iconst (v := (1 : Int32)) d_Lw_law_629 (by decide) ?_
      refine b_iadd d_Lw_law_630  ?_
      obtain ⟨h158, H⟩ := H
      refine b_sald d_Lw_law_631 h158 ?_
      refine b_callVi (Mc := m_TH_quarrels) (As := [.int (S.2 (x3 + (1 : Int32)).toNatClampNeg)]) (st := []) d_Lw_law_632 ⟨⟨kA_TH_quarrels.1, kA_TH_quarrels.2.1, kA_TH_quarrels.2.2, by decide⟩, ml_Lw_76, kV_TH_quarrels⟩ (eg_0 σ) rfl rfl (Nat.le_of_ble_eq_true rfl) H (fun v159 τ160 H => ?_)
      refine b_aload_n d_Lw_law_635 rfl rfl ?_
      refine b_aload_nS d_Lw_law_636 rfl rfl ?_
      refine b_iload_n d_Lw_law_637 rfl rfl ?_
      refine b_iconst (v := (1 : Int32)) d_Lw_law_638 (by decide) ?_
      refine b_iadd d_Lw_law_639  ?_
      obtain ⟨h161, H⟩ := H
      refine b_sald d_Lw_law_640 h161 ?_
      refine b_callVi (Mc := m_Md_quarrels) (As := [.int (S.2 (x3 + (1 : Int32)).toNatClampNeg)]) (st := [.int v159]) d_Lw_law_641 ⟨⟨kA_Md_quarrels.1, kA_Md_quarrels.2.1, kA_Md_quarrels.2.2, by decide⟩, ml_Lw_79, kV_Md_quarrels⟩ (eg_153 τ160) rfl rfl (Nat.le_of_ble_eq_true rfl) H (fun v162 τ163 H => ?_)
      refine b_icmp_eq (tgt := 1305) d_Lw_law_644 (by decide) (fun c164 => ?_) (fun c164 => ?_)
      · have H := H.1 c164
        exact b_mask [true, true, true, true] rfl H
      · have H := H.2 c164
        refine b_iconst (v := (0 : Int32)) d_Lw_law_647 (by decide) ?_
        exact b_iret (ty := .boolean) d_Lw_law_648 rfl rfl ⟨_, _, rfl, rfl, H⟩
    by_cases c17 : ((S.2 x3.toNatClampNeg) &&& (63 : Int32)) = (15 : Int32)
    · have H := H.2.2.2.2.2.2.2.2.2.2.2.2.2.2.2.1 c17
      refine b_tableIn (off := 616) (tgt := 649) d_Lw_law_33 (by rw [c17]; decide) (by rw [c17]; decide) (by rw [c17]; rfl) (by decide) ?_
      refine b_aload_n d_Lw_law_649 rfl rfl ?_
      refine b_aload_nS d_Lw_law_650 rfl rfl ?_
      refine b_iload_n d_Lw_law_651 rfl rfl ?_
      refine b_iconst (v := (1 : Int32)) d_Lw_law_652 (by decide) ?_
      refine b_iadd d_Lw_law_653  ?_
      obtain ⟨h165, H⟩ := H
      refine b_sald d_Lw_law_654 h165 ?_
      refine b_aload_nS d_Lw_law_655 rfl rfl ?_
      refine b_iload_n d_Lw_law_656 rfl rfl ?_
      refine b_iconst (v := (2 : Int32)) d_Lw_law_657 (by decide) ?_
      refine b_iadd d_Lw_law_658  ?_
      obtain ⟨h166, H⟩ := H
      refine b_sald d_Lw_law_659 h166 ?_
      refine b_callVi (Mc := m_TH_found) (As := [.int (S.2 (x3 + (1 : Int32)).toNatClampNeg), .int (S.2 (x3 + (2 : Int32)).toNatClampNeg)]) (st := []) d_Lw_law_660 ⟨⟨kA_TH_found.1, kA_TH_found.2.1, kA_TH_found.2.2, by decide⟩, ml_Lw_80, kV_TH_found⟩ (eg_0 σ) rfl rfl (Nat.le_of_ble_eq_true rfl) H (fun v167 τ168 H => ?_)
      refine b_aload_n d_Lw_law_663 rfl rfl ?_
      refine b_aload_nS d_Lw_law_664 rfl rfl ?_
      refine b_iload_n d_Lw_law_665 rfl rfl ?_
      refine b_iconst (v := (1 : Int32)) d_Lw_law_666 (by decide) ?_
      refine b_iadd d_Lw_law_667  ?_
      obtain ⟨h169, H⟩ := H
      refine b_sald d_Lw_law_668 h169 ?_
      refine b_aload_nS d_Lw_law_669 rfl rfl ?_
      refine b_iload_n d_Lw_law_670 rfl rfl ?_
      refine b_iconst (v := (2 : Int32)) d_Lw_law_671 (by decide) ?_
      refine b_iadd d_Lw_law_672  ?_
      obtain ⟨h170, H⟩ := H
      refine b_sald d_Lw_law_673 h170 ?_
      refine b_callVi (Mc := m_Md_found) (As := [.int (S.2 (x3 + (1 : Int32)).toNatClampNeg), .int (S.2 (x3 + (2 : Int32)).toNatClampNeg)]) (st := [.int v167]) d_Lw_law_674 ⟨⟨kA_Md_found.1, kA_Md_found.2.1, kA_Md_found.2.2, by decide⟩, ml_Lw_83, kV_Md_found⟩ (eg_153 τ168) rfl rfl (Nat.le_of_ble_eq_true rfl) H (fun v171 τ172 H => ?_)
      refine b_icmp_eq (tgt := 1305) d_Lw_law_677 (by decide) (fun c173 => ?_) (fun c173 => ?_)
      · have H := H.1 c173
        exact b_mask [true, true, true, true] rfl H
      · have H := H.2 c173
        refine b_iconst (v := (0 : Int32)) d_Lw_law_680 (by decide) ?_
        exact b_iret (ty := .boolean) d_Lw_law_681 rfl rfl ⟨_, _, rfl, rfl, H⟩
    by_cases c18 : ((S.2 x3.toNatClampNeg) &&& (63 : Int32)) = (16 : Int32)
    · have H := H.2.2.2.2.2.2.2.2.2.2.2.2.2.2.2.2.1 c18
      refine b_tableIn (off := 649) (tgt := 682) d_Lw_law_33 (by rw [c18]; decide) (by rw [c18]; decide) (by rw [c18]; rfl) (by decide) ?_
      refine b_aload_n d_Lw_law_682 rfl rfl ?_
      refine b_aload_nS d_Lw_law_683 rfl rfl ?_
      refine b_iload_n d_Lw_law_684 rfl rfl ?_
      refine b_iconst (v := (1 : Int32)) d_Lw_law_685 (by decide) ?_
      refine b_iadd d_Lw_law_686  ?_
      obtain ⟨h174, H⟩ := H
      refine b_sald d_Lw_law_687 h174 ?_
      refine b_callVi (Mc := m_TH_mend) (As := [.int (S.2 (x3 + (1 : Int32)).toNatClampNeg)]) (st := []) d_Lw_law_688 ⟨⟨kA_TH_mend.1, kA_TH_mend.2.1, kA_TH_mend.2.2, by decide⟩, ml_Lw_84, kV_TH_mend⟩ (eg_0 σ) rfl rfl (Nat.le_of_ble_eq_true rfl) H (fun v175 τ176 H => ?_)
      refine b_aload_n d_Lw_law_691 rfl rfl ?_
      refine b_aload_nS d_Lw_law_692 rfl rfl ?_
      refine b_iload_n d_Lw_law_693 rfl rfl ?_
      refine b_iconst (v := (1 : Int32)) d_Lw_law_694 (by decide) ?_
      refine b_iadd d_Lw_law_695  ?_
      obtain ⟨h177, H⟩ := H
      refine b_sald d_Lw_law_696 h177 ?_
      refine b_callVi (Mc := m_Md_mend) (As := [.int (S.2 (x3 + (1 : Int32)).toNatClampNeg)]) (st := [.int v175]) d_Lw_law_697 ⟨⟨kA_Md_mend.1, kA_Md_mend.2.1, kA_Md_mend.2.2, by decide⟩, ml_Lw_87, kV_Md_mend⟩ (eg_153 τ176) rfl rfl (Nat.le_of_ble_eq_true rfl) H (fun v178 τ179 H => ?_)
      refine b_icmp_eq (tgt := 1305) d_Lw_law_700 (by decide) (fun c180 => ?_) (fun c180 => ?_)
      · have H := H.1 c180
        exact b_mask [true, true, true, true] rfl H
      · have H := H.2 c180
        refine b_iconst (v := (0 : Int32)) d_Lw_law_703 (by decide) ?_
        exact b_iret (ty := .boolean) d_Lw_law_704 rfl rfl ⟨_, _, rfl, rfl, H⟩
    by_cases c19 : ((S.2 x3.toNatClampNeg) &&& (63 : Int32)) = (17 : Int32)
    · have H := H.2.2.2.2.2.2.2.2.2.2.2.2.2.2.2.2.2.1 c19
      refine b_tableIn (off := 672) (tgt := 705) d_Lw_law_33 (by rw [c19]; decide) (by rw [c19]; decide) (by rw [c19]; rfl) (by decide) ?_
      refine b_aload_n d_Lw_law_705 rfl rfl ?_
      refine b_aload_nS d_Lw_law_706 rfl rfl ?_
      refine b_iload_n d_Lw_law_707 rfl rfl ?_
      refine b_iconst (v := (1 : Int32)) d_Lw_law_708 (by decide) ?_
      refine b_iadd d_Lw_law_709  ?_
      obtain ⟨h181, H⟩ := H
      refine b_sald d_Lw_law_710 h181 ?_
      refine b_callVi (Mc := m_TH_agree) (As := [.int (S.2 (x3 + (1 : Int32)).toNatClampNeg)]) (st := []) d_Lw_law_711 ⟨⟨kA_TH_agree.1, kA_TH_agree.2.1, kA_TH_agree.2.2, by decide⟩, ml_Lw_88, kV_TH_agree⟩ (eg_0 σ) rfl rfl (Nat.le_of_ble_eq_true rfl) H (fun v182 τ183 H => ?_)
      refine b_aload_n d_Lw_law_714 rfl rfl ?_
      refine b_aload_nS d_Lw_law_715 rfl rfl ?_
      refine b_iload_n d_Lw_law_716 rfl rfl ?_
      refine b_iconst (v := (1 : Int32)) d_Lw_law_717 (by decide) ?_
      refine b_iadd d_Lw_law_718  ?_
      obtain ⟨h184, H⟩ := H
      refine b_sald d_Lw_law_719 h184 ?_
      refine b_callVi (Mc := m_Md_agree) (As := [.int (S.2 (x3 + (1 : Int32)).toNatClampNeg)]) (st := [.int v182]) d_Lw_law_720 ⟨⟨kA_Md_agree.1, kA_Md_agree.2.1, kA_Md_agree.2.2, by decide⟩, ml_Lw_91, kV_Md_agree⟩ (eg_153 τ183) rfl rfl (Nat.le_of_ble_eq_true rfl) H (fun v185 τ186 H => ?_)
      refine b_icmp_eq (tgt := 1305) d_Lw_law_723 (by decide) (fun c187 => ?_) (fun c187 => ?_)
      · have H := H.1 c187
        exact b_mask [true, true, true, true] rfl H
      · have H := H.2 c187
        refine b_iconst (v := (0 : Int32)) d_Lw_law_726 (by decide) ?_
        exact b_iret (ty := .boolean) d_Lw_law_727 rfl rfl ⟨_, _, rfl, rfl, H⟩
    by_cases c20 : ((S.2 x3.toNatClampNeg) &&& (63 : Int32)) = (18 : Int32)
    · have H := H.2.2.2.2.2.2.2.2.2.2.2.2.2.2.2.2.2.2.1 c20
      refine b_tableIn (off := 695) (tgt := 728) d_Lw_law_33 (by rw [c20]; decide) (by rw [c20]; decide) (by rw [c20]; rfl) (by decide) ?_
      refine b_aload_n d_Lw_law_728 rfl rfl ?_
      refine b_aload_nS d_Lw_law_729 rfl rfl ?_
      refine b_iload_n d_Lw_law_730 rfl rfl ?_
      refine b_iconst (v := (1 : Int32)) d_Lw_law_731 (by decide) ?_
      refine b_iadd d_Lw_law_732  ?_
      obtain ⟨h188, H⟩ := H
      refine b_sald d_Lw_law_733 h188 ?_
      refine b_callVi (Mc := m_TH_agreed) (As := [.int (S.2 (x3 + (1 : Int32)).toNatClampNeg)]) (st := []) d_Lw_law_734 ⟨⟨kA_TH_agreed.1, kA_TH_agreed.2.1, kA_TH_agreed.2.2, by decide⟩, ml_Lw_92, kV_TH_agreed⟩ (eg_0 σ) rfl rfl (Nat.le_of_ble_eq_true rfl) H (fun v189 τ190 H => ?_)
      refine b_aload_n d_Lw_law_737 rfl rfl ?_
      refine b_aload_nS d_Lw_law_738 rfl rfl ?_
      refine b_iload_n d_Lw_law_739 rfl rfl ?_
      refine b_iconst (v := (1 : Int32)) d_Lw_law_740 (by decide) ?_
      refine b_iadd d_Lw_law_741  ?_
      obtain ⟨h191, H⟩ := H
      refine b_sald d_Lw_law_742 h191 ?_
      refine b_callVi (Mc := m_Md_agreed) (As := [.int (S.2 (x3 + (1 : Int32)).toNatClampNeg)]) (st := [.int v189]) d_Lw_law_743 ⟨⟨kA_Md_agreed.1, kA_Md_agreed.2.1, kA_Md_agreed.2.2, by decide⟩, ml_Lw_95, kV_Md_agreed⟩ (eg_153 τ190) rfl rfl (Nat.le_of_ble_eq_true rfl) H (fun v192 τ193 H => ?_)
      refine b_icmp_eq (tgt := 1305) d_Lw_law_746 (by decide) (fun c194 => ?_) (fun c194 => ?_)
      · have H := H.1 c194
        exact b_mask [true, true, true, true] rfl H
      · have H := H.2 c194
        refine b_iconst (v := (0 : Int32)) d_Lw_law_749 (by decide) ?_
        exact b_iret (ty := .boolean) d_Lw_law_750 rfl rfl ⟨_, _, rfl, rfl, H⟩
    by_cases c21 : ((S.2 x3.toNatClampNeg) &&& (63 : Int32)) = (19 : Int32)
    · have H := H.2.2.2.2.2.2.2.2.2.2.2.2.2.2.2.2.2.2.2.1 c21
      refine b_tableIn (off := 718) (tgt := 751) d_Lw_law_33 (by rw [c21]; decide) (by rw [c21]; decide) (by rw [c21]; rfl) (by decide) ?_
      refine b_aload_n d_Lw_law_751 rfl rfl ?_
      refine b_aload_nS d_Lw_law_752 rfl rfl ?_
      refine b_iload_n d_Lw_law_753 rfl rfl ?_
      refine b_iconst (v := (1 : Int32)) d_Lw_law_754 (by decide) ?_
      refine b_iadd d_Lw_law_755  ?_
      obtain ⟨h195, H⟩ := H
      refine b_sald d_Lw_law_756 h195 ?_
      refine b_callVl (Mc := m_TH_share) (As := [.int (S.2 (x3 + (1 : Int32)).toNatClampNeg)]) (st := []) d_Lw_law_757 ⟨⟨kA_TH_share.1, kA_TH_share.2.1, kA_TH_share.2.2, by decide⟩, ml_Lw_96, kV_TH_share⟩ (eg_0 σ) rfl rfl (Nat.le_of_ble_eq_true rfl) H (fun v196 τ197 H => ?_)
      refine b_aload_n d_Lw_law_760 rfl rfl ?_
      refine b_aload_nS d_Lw_law_761 rfl rfl ?_
      refine b_iload_n d_Lw_law_762 rfl rfl ?_
      refine b_iconst (v := (1 : Int32)) d_Lw_law_763 (by decide) ?_
      refine b_iadd d_Lw_law_764  ?_
      obtain ⟨h198, H⟩ := H
      refine b_sald d_Lw_law_765 h198 ?_
      refine b_callVl (Mc := m_Md_share) (As := [.int (S.2 (x3 + (1 : Int32)).toNatClampNeg)]) (st := [.long v196]) d_Lw_law_766 ⟨⟨kA_Md_share.1, kA_Md_share.2.1, kA_Md_share.2.2, by decide⟩, ml_Lw_100, kV_Md_share⟩ (eg_153 τ197) rfl rfl (Nat.le_of_ble_eq_true rfl) H (fun v199 τ200 H => ?_)
      refine b_lcmp d_Lw_law_769 ?_
      refine b_if_eq (tgt := 1305) d_Lw_law_770 (by decide) (fun c201 => ?_) (fun c201 => ?_)
      · have H := H.1 c201
        exact b_mask [true, true, true, true] rfl H
      · have H := H.2 c201
        refine b_iconst (v := (0 : Int32)) d_Lw_law_773 (by decide) ?_
        exact b_iret (ty := .boolean) d_Lw_law_774 rfl rfl ⟨_, _, rfl, rfl, H⟩
    by_cases c22 : ((S.2 x3.toNatClampNeg) &&& (63 : Int32)) = (20 : Int32)
    · have H := H.2.2.2.2.2.2.2.2.2.2.2.2.2.2.2.2.2.2.2.2.1 c22
      refine b_tableIn (off := 742) (tgt := 775) d_Lw_law_33 (by rw [c22]; decide) (by rw [c22]; decide) (by rw [c22]; rfl) (by decide) ?_
      refine b_aload_n d_Lw_law_775 rfl rfl ?_
      refine b_aload_nS d_Lw_law_776 rfl rfl ?_
      refine b_iload_n d_Lw_law_777 rfl rfl ?_
      refine b_iconst (v := (1 : Int32)) d_Lw_law_778 (by decide) ?_
      refine b_iadd d_Lw_law_779  ?_
      obtain ⟨h202, H⟩ := H
      refine b_sald d_Lw_law_780 h202 ?_
      refine b_callVi (Mc := m_TH_start) (As := [.int (S.2 (x3 + (1 : Int32)).toNatClampNeg)]) (st := []) d_Lw_law_781 ⟨⟨kA_TH_start.1, kA_TH_start.2.1, kA_TH_start.2.2, by decide⟩, ml_Lw_101, kV_TH_start⟩ (eg_0 σ) rfl rfl (Nat.le_of_ble_eq_true rfl) H (fun v203 τ204 H => ?_)
      refine b_aload_n d_Lw_law_784 rfl rfl ?_
      refine b_aload_nS d_Lw_law_785 rfl rfl ?_
      refine b_iload_n d_Lw_law_786 rfl rfl ?_
      refine b_iconst (v := (1 : Int32)) d_Lw_law_787 (by decide) ?_
      refine b_iadd d_Lw_law_788  ?_
      obtain ⟨h205, H⟩ := H
      refine b_sald d_Lw_law_789 h205 ?_
      refine b_callVi (Mc := m_Md_start) (As := [.int (S.2 (x3 + (1 : Int32)).toNatClampNeg)]) (st := [.int v203]) d_Lw_law_790 ⟨⟨kA_Md_start.1, kA_Md_start.2.1, kA_Md_start.2.2, by decide⟩, ml_Lw_104, kV_Md_start⟩ (eg_153 τ204) rfl rfl (Nat.le_of_ble_eq_true rfl) H (fun v206 τ207 H => ?_)
      refine b_icmp_eq (tgt := 1305) d_Lw_law_793 (by decide) (fun c208 => ?_) (fun c208 => ?_)
      · have H := H.1 c208
        exact b_mask [true, true, true, true] rfl H
      · have H := H.2 c208
        refine b_iconst (v := (0 : Int32)) d_Lw_law_796 (by decide) ?_
        exact b_iret (ty := .boolean) d_Lw_law_797 rfl rfl ⟨_, _, rfl, rfl, H⟩
    by_cases c23 : ((S.2 x3.toNatClampNeg) &&& (63 : Int32)) = (21 : Int32)
    · have H := H.2.2.2.2.2.2.2.2.2.2.2.2.2.2.2.2.2.2.2.2.2.1 c23
      refine b_tableIn (off := 765) (tgt := 798) d_Lw_law_33 (by rw [c23]; decide) (by rw [c23]; decide) (by rw [c23]; rfl) (by decide) ?_
      refine b_aload_n d_Lw_law_798 rfl rfl ?_
      refine b_aload_nS d_Lw_law_799 rfl rfl ?_
      refine b_iload_n d_Lw_law_800 rfl rfl ?_
      refine b_iconst (v := (1 : Int32)) d_Lw_law_801 (by decide) ?_
      refine b_iadd d_Lw_law_802  ?_
      obtain ⟨h209, H⟩ := H
      refine b_sald d_Lw_law_803 h209 ?_
      refine b_aload_nS d_Lw_law_804 rfl rfl ?_
      refine b_iload_n d_Lw_law_805 rfl rfl ?_
      refine b_iconst (v := (2 : Int32)) d_Lw_law_806 (by decide) ?_
      refine b_iadd d_Lw_law_807  ?_
      obtain ⟨h210, H⟩ := H
      refine b_sald d_Lw_law_808 h210 ?_
      refine b_callVi (Mc := m_TH_came) (As := [.int (S.2 (x3 + (1 : Int32)).toNatClampNeg), .int (S.2 (x3 + (2 : Int32)).toNatClampNeg)]) (st := []) d_Lw_law_809 ⟨⟨kA_TH_came.1, kA_TH_came.2.1, kA_TH_came.2.2, by decide⟩, ml_Lw_105, kV_TH_came⟩ (eg_0 σ) rfl rfl (Nat.le_of_ble_eq_true rfl) H (fun v211 τ212 H => ?_)
      refine b_aload_n d_Lw_law_812 rfl rfl ?_
      refine b_aload_nS d_Lw_law_813 rfl rfl ?_
      refine b_iload_n d_Lw_law_814 rfl rfl ?_
      refine b_iconst (v := (1 : Int32)) d_Lw_law_815 (by decide) ?_
      refine b_iadd d_Lw_law_816  ?_
      obtain ⟨h213, H⟩ := H
      refine b_sald d_Lw_law_817 h213 ?_
      refine b_aload_nS d_Lw_law_818 rfl rfl ?_
      refine b_iload_n d_Lw_law_819 rfl rfl ?_
      refine b_iconst (v := (2 : Int32)) d_Lw_law_820 (by decide) ?_
      refine b_iadd d_Lw_law_821  ?_
      obtain ⟨h214, H⟩ := H
      refine b_sald d_Lw_law_822 h214 ?_
      refine b_callVi (Mc := m_Md_came) (As := [.int (S.2 (x3 + (1 : Int32)).toNatClampNeg), .int (S.2 (x3 + (2 : Int32)).toNatClampNeg)]) (st := [.int v211]) d_Lw_law_823 ⟨⟨kA_Md_came.1, kA_Md_came.2.1, kA_Md_came.2.2, by decide⟩, ml_Lw_108, kV_Md_came⟩ (eg_153 τ212) rfl rfl (Nat.le_of_ble_eq_true rfl) H (fun v215 τ216 H => ?_)
      refine b_icmp_eq (tgt := 1305) d_Lw_law_826 (by decide) (fun c217 => ?_) (fun c217 => ?_)
      · have H := H.1 c217
        exact b_mask [true, true, true, true] rfl H
      · have H := H.2 c217
        refine b_iconst (v := (0 : Int32)) d_Lw_law_829 (by decide) ?_
        exact b_iret (ty := .boolean) d_Lw_law_830 rfl rfl ⟨_, _, rfl, rfl, H⟩
    by_cases c24 : ((S.2 x3.toNatClampNeg) &&& (63 : Int32)) = (22 : Int32)
    · have H := H.2.2.2.2.2.2.2.2.2.2.2.2.2.2.2.2.2.2.2.2.2.2.1 c24
      refine b_tableIn (off := 798) (tgt := 831) d_Lw_law_33 (by rw [c24]; decide) (by rw [c24]; decide) (by rw [c24]; rfl) (by decide) ?_
      refine b_aload_n d_Lw_law_831 rfl rfl ?_
      refine b_aload_nS d_Lw_law_832 rfl rfl ?_
      refine b_iload_n d_Lw_law_833 rfl rfl ?_
      refine b_iconst (v := (1 : Int32)) d_Lw_law_834 (by decide) ?_
      refine b_iadd d_Lw_law_835  ?_
      obtain ⟨h218, H⟩ := H
      refine b_sald d_Lw_law_836 h218 ?_
      refine b_callVi (Mc := m_TH_due) (As := [.int (S.2 (x3 + (1 : Int32)).toNatClampNeg)]) (st := []) d_Lw_law_837 ⟨⟨kA_TH_due.1, kA_TH_due.2.1, kA_TH_due.2.2, by decide⟩, ml_Lw_109, kV_TH_due⟩ (eg_0 σ) rfl rfl (Nat.le_of_ble_eq_true rfl) H (fun v219 τ220 H => ?_)
      refine b_aload_n d_Lw_law_840 rfl rfl ?_
      refine b_aload_nS d_Lw_law_841 rfl rfl ?_
      refine b_iload_n d_Lw_law_842 rfl rfl ?_
      refine b_iconst (v := (1 : Int32)) d_Lw_law_843 (by decide) ?_
      refine b_iadd d_Lw_law_844  ?_
      obtain ⟨h221, H⟩ := H
      refine b_sald d_Lw_law_845 h221 ?_
      refine b_callVi (Mc := m_Md_due) (As := [.int (S.2 (x3 + (1 : Int32)).toNatClampNeg)]) (st := [.int v219]) d_Lw_law_846 ⟨⟨kA_Md_due.1, kA_Md_due.2.1, kA_Md_due.2.2, by decide⟩, ml_Lw_112, kV_Md_due⟩ (eg_153 τ220) rfl rfl (Nat.le_of_ble_eq_true rfl) H (fun v222 τ223 H => ?_)
      refine b_icmp_eq (tgt := 1305) d_Lw_law_849 (by decide) (fun c224 => ?_) (fun c224 => ?_)
      · have H := H.1 c224
        exact b_mask [true, true, true, true] rfl H
      · have H := H.2 c224
        refine b_iconst (v := (0 : Int32)) d_Lw_law_852 (by decide) ?_
        exact b_iret (ty := .boolean) d_Lw_law_853 rfl rfl ⟨_, _, rfl, rfl, H⟩
    by_cases c25 : ((S.2 x3.toNatClampNeg) &&& (63 : Int32)) = (23 : Int32)
    · have H := H.2.2.2.2.2.2.2.2.2.2.2.2.2.2.2.2.2.2.2.2.2.2.2.1 c25
      refine b_tableIn (off := 821) (tgt := 854) d_Lw_law_33 (by rw [c25]; decide) (by rw [c25]; decide) (by rw [c25]; rfl) (by decide) ?_
      refine b_aload_n d_Lw_law_854 rfl rfl ?_
      refine b_aload_nS d_Lw_law_855 rfl rfl ?_
      refine b_iload_n d_Lw_law_856 rfl rfl ?_
      refine b_iconst (v := (1 : Int32)) d_Lw_law_857 (by decide) ?_
      refine b_iadd d_Lw_law_858  ?_
      obtain ⟨h225, H⟩ := H
      refine b_sald d_Lw_law_859 h225 ?_
      refine b_aload_nS d_Lw_law_860 rfl rfl ?_
      refine b_iload_n d_Lw_law_861 rfl rfl ?_
      refine b_iconst (v := (2 : Int32)) d_Lw_law_862 (by decide) ?_
      refine b_iadd d_Lw_law_863  ?_
      obtain ⟨h226, H⟩ := H
      refine b_sald d_Lw_law_864 h226 ?_
      refine b_aload_nS d_Lw_law_865 rfl rfl ?_
      refine b_iload_n d_Lw_law_866 rfl rfl ?_
      refine b_iconst (v := (3 : Int32)) d_Lw_law_867 (by decide) ?_
      refine b_iadd d_Lw_law_868  ?_
      obtain ⟨h227, H⟩ := H
      refine b_sald d_Lw_law_869 h227 ?_
      refine b_aload_nS d_Lw_law_870 rfl rfl ?_
      refine b_iload_n d_Lw_law_871 rfl rfl ?_
      refine b_iconst (v := (4 : Int32)) d_Lw_law_872 (by decide) ?_
      refine b_iadd d_Lw_law_873  ?_
      obtain ⟨h228, H⟩ := H
      refine b_sald d_Lw_law_874 h228 ?_
      refine b_callVi (Mc := m_TH_prices) (As := [.int (S.2 (x3 + (1 : Int32)).toNatClampNeg), .int (S.2 (x3 + (2 : Int32)).toNatClampNeg), .int (S.2 (x3 + (3 : Int32)).toNatClampNeg), .int (S.2 (x3 + (4 : Int32)).toNatClampNeg)]) (st := []) d_Lw_law_875 ⟨⟨kA_TH_prices.1, kA_TH_prices.2.1, kA_TH_prices.2.2, by decide⟩, ml_Lw_113, kV_TH_prices⟩ (eg_0 σ) rfl rfl (Nat.le_of_ble_eq_true rfl) H (fun v229 τ230 H => ?_)
      refine b_aload_n d_Lw_law_878 rfl rfl ?_
      refine b_aload_nS d_Lw_law_879 rfl rfl ?_
      refine b_iload_n d_Lw_law_880 rfl rfl ?_
      refine b_iconst (v := (1 : Int32)) d_Lw_law_881 (by decide) ?_
      refine b_iadd d_Lw_law_882  ?_
      obtain ⟨h231, H⟩ := H
      refine b_sald d_Lw_law_883 h231 ?_
      refine b_aload_nS d_Lw_law_884 rfl rfl ?_
      refine b_iload_n d_Lw_law_885 rfl rfl ?_
      refine b_iconst (v := (2 : Int32)) d_Lw_law_886 (by decide) ?_
      refine b_iadd d_Lw_law_887  ?_
      obtain ⟨h232, H⟩ := H
      refine b_sald d_Lw_law_888 h232 ?_
      refine b_aload_nS d_Lw_law_889 rfl rfl ?_
      refine b_iload_n d_Lw_law_890 rfl rfl ?_
      refine b_iconst (v := (3 : Int32)) d_Lw_law_891 (by decide) ?_
      refine b_iadd d_Lw_law_892  ?_
      obtain ⟨h233, H⟩ := H
      refine b_sald d_Lw_law_893 h233 ?_
      refine b_aload_nS d_Lw_law_894 rfl rfl ?_
      refine b_iload_n d_Lw_law_895 rfl rfl ?_
      refine b_iconst (v := (4 : Int32)) d_Lw_law_896 (by decide) ?_
      refine b_iadd d_Lw_law_897  ?_
      obtain ⟨h234, H⟩ := H
      refine b_sald d_Lw_law_898 h234 ?_
      refine b_callVi (Mc := m_Md_prices) (As := [.int (S.2 (x3 + (1 : Int32)).toNatClampNeg), .int (S.2 (x3 + (2 : Int32)).toNatClampNeg), .int (S.2 (x3 + (3 : Int32)).toNatClampNeg), .int (S.2 (x3 + (4 : Int32)).toNatClampNeg)]) (st := [.int v229]) d_Lw_law_899 ⟨⟨kA_Md_prices.1, kA_Md_prices.2.1, kA_Md_prices.2.2, by decide⟩, ml_Lw_116, kV_Md_prices⟩ (eg_153 τ230) rfl rfl (Nat.le_of_ble_eq_true rfl) H (fun v235 τ236 H => ?_)
      refine b_icmp_eq (tgt := 1305) d_Lw_law_902 (by decide) (fun c237 => ?_) (fun c237 => ?_)
      · have H := H.1 c237
        exact b_mask [true, true, true, true] rfl H
      · have H := H.2 c237
        refine b_iconst (v := (0 : Int32)) d_Lw_law_905 (by decide) ?_
        exact b_iret (ty := .boolean) d_Lw_law_906 rfl rfl ⟨_, _, rfl, rfl, H⟩
    by_cases c26 : ((S.2 x3.toNatClampNeg) &&& (63 : Int32)) = (24 : Int32)
    · have H := H.2.2.2.2.2.2.2.2.2.2.2.2.2.2.2.2.2.2.2.2.2.2.2.2.1 c26
      refine b_tableIn (off := 874) (tgt := 907) d_Lw_law_33 (by rw [c26]; decide) (by rw [c26]; decide) (by rw [c26]; rfl) (by decide) ?_
      refine b_aload_n d_Lw_law_907 rfl rfl ?_
      refine b_aload_nS d_Lw_law_908 rfl rfl ?_
      refine b_iload_n d_Lw_law_909 rfl rfl ?_
      refine b_iconst (v := (1 : Int32)) d_Lw_law_910 (by decide) ?_
      refine b_iadd d_Lw_law_911  ?_
      obtain ⟨h238, H⟩ := H
      refine b_sald d_Lw_law_912 h238 ?_
      refine b_aload_nS d_Lw_law_913 rfl rfl ?_
      refine b_iload_n d_Lw_law_914 rfl rfl ?_
      refine b_iconst (v := (2 : Int32)) d_Lw_law_915 (by decide) ?_
      refine b_iadd d_Lw_law_916  ?_
      obtain ⟨h239, H⟩ := H
      refine b_sald d_Lw_law_917 h239 ?_
      refine b_aload_nS d_Lw_law_918 rfl rfl ?_
      refine b_iload_n d_Lw_law_919 rfl rfl ?_
      refine b_iconst (v := (3 : Int32)) d_Lw_law_920 (by decide) ?_
      refine b_iadd d_Lw_law_921  ?_
      obtain ⟨h240, H⟩ := H
      refine b_sald d_Lw_law_922 h240 ?_
      refine b_if_eq (tgt := 930) d_Lw_law_923 (by decide) (fun c265 => ?_) (fun c265 => ?_)
      · have H := H.1 c265
        refine b_iconst (v := (0 : Int32)) d_Lw_law_930 (by decide) ?_
        refine b_callVi (Mc := m_TH_keep) (As := [.int (S.2 (x3 + (1 : Int32)).toNatClampNeg), .int (S.2 (x3 + (2 : Int32)).toNatClampNeg), .int (0 : Int32)]) (st := []) d_Lw_law_931 ⟨⟨kA_TH_keep.1, kA_TH_keep.2.1, kA_TH_keep.2.2, by decide⟩, ml_Lw_117, kV_TH_keep⟩ (eg_0 σ) rfl rfl (Nat.le_of_ble_eq_true rfl) H (fun v241 τ242 H => ?_)
        refine b_aload_n d_Lw_law_934 rfl rfl ?_
        refine b_aload_nS d_Lw_law_935 rfl rfl ?_
        refine b_iload_n d_Lw_law_936 rfl rfl ?_
        refine b_iconst (v := (1 : Int32)) d_Lw_law_937 (by decide) ?_
        refine b_iadd d_Lw_law_938  ?_
        obtain ⟨h243, H⟩ := H
        refine b_sald d_Lw_law_939 h243 ?_
        refine b_aload_nS d_Lw_law_940 rfl rfl ?_
        refine b_iload_n d_Lw_law_941 rfl rfl ?_
        refine b_iconst (v := (2 : Int32)) d_Lw_law_942 (by decide) ?_
        refine b_iadd d_Lw_law_943  ?_
        obtain ⟨h244, H⟩ := H
        refine b_sald d_Lw_law_944 h244 ?_
        refine b_aload_nS d_Lw_law_945 rfl rfl ?_
        refine b_iload_n d_Lw_law_946 rfl rfl ?_
        refine b_iconst (v := (3 : Int32)) d_Lw_law_947 (by decide) ?_
        refine b_iadd d_Lw_law_948  ?_
        obtain ⟨h245, H⟩ := H
        refine b_sald d_Lw_law_949 h245 ?_
        refine b_if_eq (tgt := 957) d_Lw_law_950 (by decide) (fun c252 => ?_) (fun c252 => ?_)
        · have H := H.1 c252
          refine b_iconst (v := (0 : Int32)) d_Lw_law_957 (by decide) ?_
          refine b_callVi (Mc := m_Md_keep) (As := [.int (S.2 (x3 + (1 : Int32)).toNatClampNeg), .int (S.2 (x3 + (2 : Int32)).toNatClampNeg), .int (0 : Int32)]) (st := [.int v241]) d_Lw_law_958 ⟨⟨kA_Md_keep.1, kA_Md_keep.2.1, kA_Md_keep.2.2, by decide⟩, ml_Lw_121, kV_Md_keep⟩ (eg_153 τ242) rfl rfl (Nat.le_of_ble_eq_true rfl) H (fun v246 τ247 H => ?_)
          refine b_icmp_eq (tgt := 1305) d_Lw_law_961 (by decide) (fun c248 => ?_) (fun c248 => ?_)
          · have H := H.1 c248
            exact b_mask [true, true, true, true] rfl H
          · have H := H.2 c248
            refine b_iconst (v := (0 : Int32)) d_Lw_law_964 (by decide) ?_
            exact b_iret (ty := .boolean) d_Lw_law_965 rfl rfl ⟨_, _, rfl, rfl, H⟩
        · have H := H.2 c252
          refine b_iconst (v := (1 : Int32)) d_Lw_law_953 (by decide) ?_
          refine b_goto (tgt := 958) d_Lw_law_954 (by decide) ?_
          refine b_callVi (Mc := m_Md_keep) (As := [.int (S.2 (x3 + (1 : Int32)).toNatClampNeg), .int (S.2 (x3 + (2 : Int32)).toNatClampNeg), .int (1 : Int32)]) (st := [.int v241]) d_Lw_law_958 ⟨⟨kA_Md_keep.1, kA_Md_keep.2.1, kA_Md_keep.2.2, by decide⟩, ml_Lw_121, kV_Md_keep⟩ (eg_153 τ242) rfl rfl (Nat.le_of_ble_eq_true rfl) H (fun v249 τ250 H => ?_)
          refine b_icmp_eq (tgt := 1305) d_Lw_law_961 (by decide) (fun c251 => ?_) (fun c251 => ?_)
          · have H := H.1 c251
            exact b_mask [true, true, true, true] rfl H
          · have H := H.2 c251
            refine b_iconst (v := (0 : Int32)) d_Lw_law_964 (by decide) ?_
            exact b_iret (ty := .boolean) d_Lw_law_965 rfl rfl ⟨_, _, rfl, rfl, H⟩
      · have H := H.2 c265
        refine b_iconst (v := (1 : Int32)) d_Lw_law_926 (by decide) ?_
        refine b_goto (tgt := 931) d_Lw_law_927 (by decide) ?_
        refine b_callVi (Mc := m_TH_keep) (As := [.int (S.2 (x3 + (1 : Int32)).toNatClampNeg), .int (S.2 (x3 + (2 : Int32)).toNatClampNeg), .int (1 : Int32)]) (st := []) d_Lw_law_931 ⟨⟨kA_TH_keep.1, kA_TH_keep.2.1, kA_TH_keep.2.2, by decide⟩, ml_Lw_117, kV_TH_keep⟩ (eg_0 σ) rfl rfl (Nat.le_of_ble_eq_true rfl) H (fun v253 τ254 H => ?_)
        refine b_aload_n d_Lw_law_934 rfl rfl ?_
        refine b_aload_nS d_Lw_law_935 rfl rfl ?_
        refine b_iload_n d_Lw_law_936 rfl rfl ?_
        refine b_iconst (v := (1 : Int32)) d_Lw_law_937 (by decide) ?_
        refine b_iadd d_Lw_law_938  ?_
        obtain ⟨h255, H⟩ := H
        refine b_sald d_Lw_law_939 h255 ?_
        refine b_aload_nS d_Lw_law_940 rfl rfl ?_
        refine b_iload_n d_Lw_law_941 rfl rfl ?_
        refine b_iconst (v := (2 : Int32)) d_Lw_law_942 (by decide) ?_
        refine b_iadd d_Lw_law_943  ?_
        obtain ⟨h256, H⟩ := H
        refine b_sald d_Lw_law_944 h256 ?_
        refine b_aload_nS d_Lw_law_945 rfl rfl ?_
        refine b_iload_n d_Lw_law_946 rfl rfl ?_
        refine b_iconst (v := (3 : Int32)) d_Lw_law_947 (by decide) ?_
        refine b_iadd d_Lw_law_948  ?_
        obtain ⟨h257, H⟩ := H
        refine b_sald d_Lw_law_949 h257 ?_
        refine b_if_eq (tgt := 957) d_Lw_law_950 (by decide) (fun c264 => ?_) (fun c264 => ?_)
        · have H := H.1 c264
          refine b_iconst (v := (0 : Int32)) d_Lw_law_957 (by decide) ?_
          refine b_callVi (Mc := m_Md_keep) (As := [.int (S.2 (x3 + (1 : Int32)).toNatClampNeg), .int (S.2 (x3 + (2 : Int32)).toNatClampNeg), .int (0 : Int32)]) (st := [.int v253]) d_Lw_law_958 ⟨⟨kA_Md_keep.1, kA_Md_keep.2.1, kA_Md_keep.2.2, by decide⟩, ml_Lw_121, kV_Md_keep⟩ (eg_153 τ254) rfl rfl (Nat.le_of_ble_eq_true rfl) H (fun v258 τ259 H => ?_)
          refine b_icmp_eq (tgt := 1305) d_Lw_law_961 (by decide) (fun c260 => ?_) (fun c260 => ?_)
          · have H := H.1 c260
            exact b_mask [true, true, true, true] rfl H
          · have H := H.2 c260
            refine b_iconst (v := (0 : Int32)) d_Lw_law_964 (by decide) ?_
            exact b_iret (ty := .boolean) d_Lw_law_965 rfl rfl ⟨_, _, rfl, rfl, H⟩
        · have H := H.2 c264
          refine b_iconst (v := (1 : Int32)) d_Lw_law_953 (by decide) ?_
          refine b_goto (tgt := 958) d_Lw_law_954 (by decide) ?_
          refine b_callVi (Mc := m_Md_keep) (As := [.int (S.2 (x3 + (1 : Int32)).toNatClampNeg), .int (S.2 (x3 + (2 : Int32)).toNatClampNeg), .int (1 : Int32)]) (st := [.int v253]) d_Lw_law_958 ⟨⟨kA_Md_keep.1, kA_Md_keep.2.1, kA_Md_keep.2.2, by decide⟩, ml_Lw_121, kV_Md_keep⟩ (eg_153 τ254) rfl rfl (Nat.le_of_ble_eq_true rfl) H (fun v261 τ262 H => ?_)
          refine b_icmp_eq (tgt := 1305) d_Lw_law_961 (by decide) (fun c263 => ?_) (fun c263 => ?_)
          · have H := H.1 c263
            exact b_mask [true, true, true, true] rfl H
          · have H := H.2 c263
            refine b_iconst (v := (0 : Int32)) d_Lw_law_964 (by decide) ?_
            exact b_iret (ty := .boolean) d_Lw_law_965 rfl rfl ⟨_, _, rfl, rfl, H⟩
    by_cases c27 : ((S.2 x3.toNatClampNeg) &&& (63 : Int32)) = (25 : Int32)
    · have H := H.2.2.2.2.2.2.2.2.2.2.2.2.2.2.2.2.2.2.2.2.2.2.2.2.2.1 c27
      refine b_tableIn (off := 933) (tgt := 966) d_Lw_law_33 (by rw [c27]; decide) (by rw [c27]; decide) (by rw [c27]; rfl) (by decide) ?_
      refine b_aload_n d_Lw_law_966 rfl rfl ?_
      refine b_aload_nS d_Lw_law_967 rfl rfl ?_
      refine b_iload_n d_Lw_law_968 rfl rfl ?_
      refine b_iconst (v := (1 : Int32)) d_Lw_law_969 (by decide) ?_
      refine b_iadd d_Lw_law_970  ?_
      obtain ⟨h266, H⟩ := H
      refine b_sald d_Lw_law_971 h266 ?_
      refine b_aload_nS d_Lw_law_972 rfl rfl ?_
      refine b_iload_n d_Lw_law_973 rfl rfl ?_
      refine b_iconst (v := (2 : Int32)) d_Lw_law_974 (by decide) ?_
      refine b_iadd d_Lw_law_975  ?_
      obtain ⟨h267, H⟩ := H
      refine b_sald d_Lw_law_976 h267 ?_
      refine b_aload_nS d_Lw_law_977 rfl rfl ?_
      refine b_iload_n d_Lw_law_978 rfl rfl ?_
      refine b_iconst (v := (3 : Int32)) d_Lw_law_979 (by decide) ?_
      refine b_iadd d_Lw_law_980  ?_
      obtain ⟨h268, H⟩ := H
      refine b_sald d_Lw_law_981 h268 ?_
      refine b_callVi (Mc := m_TH_print) (As := [.int (S.2 (x3 + (1 : Int32)).toNatClampNeg), .int (S.2 (x3 + (2 : Int32)).toNatClampNeg), .int (S.2 (x3 + (3 : Int32)).toNatClampNeg)]) (st := []) d_Lw_law_982 ⟨⟨kA_TH_print.1, kA_TH_print.2.1, kA_TH_print.2.2, by decide⟩, ml_Lw_122, kV_TH_print⟩ (eg_0 σ) rfl rfl (Nat.le_of_ble_eq_true rfl) H (fun v269 τ270 H => ?_)
      refine b_aload_n d_Lw_law_985 rfl rfl ?_
      refine b_aload_nS d_Lw_law_986 rfl rfl ?_
      refine b_iload_n d_Lw_law_987 rfl rfl ?_
      refine b_iconst (v := (1 : Int32)) d_Lw_law_988 (by decide) ?_
      refine b_iadd d_Lw_law_989  ?_
      obtain ⟨h271, H⟩ := H
      refine b_sald d_Lw_law_990 h271 ?_
      refine b_aload_nS d_Lw_law_991 rfl rfl ?_
      refine b_iload_n d_Lw_law_992 rfl rfl ?_
      refine b_iconst (v := (2 : Int32)) d_Lw_law_993 (by decide) ?_
      refine b_iadd d_Lw_law_994  ?_
      obtain ⟨h272, H⟩ := H
      refine b_sald d_Lw_law_995 h272 ?_
      refine b_aload_nS d_Lw_law_996 rfl rfl ?_
      refine b_iload_n d_Lw_law_997 rfl rfl ?_
      refine b_iconst (v := (3 : Int32)) d_Lw_law_998 (by decide) ?_
      refine b_iadd d_Lw_law_999  ?_
      obtain ⟨h273, H⟩ := H
      refine b_sald d_Lw_law_1000 h273 ?_
      refine b_callVi (Mc := m_Md_print) (As := [.int (S.2 (x3 + (1 : Int32)).toNatClampNeg), .int (S.2 (x3 + (2 : Int32)).toNatClampNeg), .int (S.2 (x3 + (3 : Int32)).toNatClampNeg)]) (st := [.int v269]) d_Lw_law_1001 ⟨⟨kA_Md_print.1, kA_Md_print.2.1, kA_Md_print.2.2, by decide⟩, ml_Lw_126, kV_Md_print⟩ (eg_153 τ270) rfl rfl (Nat.le_of_ble_eq_true rfl) H (fun v274 τ275 H => ?_)
      refine b_icmp_eq (tgt := 1305) d_Lw_law_1004 (by decide) (fun c276 => ?_) (fun c276 => ?_)
      · have H := H.1 c276
        exact b_mask [true, true, true, true] rfl H
      · have H := H.2 c276
        refine b_iconst (v := (0 : Int32)) d_Lw_law_1007 (by decide) ?_
        exact b_iret (ty := .boolean) d_Lw_law_1008 rfl rfl ⟨_, _, rfl, rfl, H⟩
    by_cases c28 : ((S.2 x3.toNatClampNeg) &&& (63 : Int32)) = (26 : Int32)
    · have H := H.2.2.2.2.2.2.2.2.2.2.2.2.2.2.2.2.2.2.2.2.2.2.2.2.2.2.1 c28
      refine b_tableIn (off := 976) (tgt := 1009) d_Lw_law_33 (by rw [c28]; decide) (by rw [c28]; decide) (by rw [c28]; rfl) (by decide) ?_
      refine b_aload_n d_Lw_law_1009 rfl rfl ?_
      refine b_aload_nS d_Lw_law_1010 rfl rfl ?_
      refine b_iload_n d_Lw_law_1011 rfl rfl ?_
      refine b_iconst (v := (1 : Int32)) d_Lw_law_1012 (by decide) ?_
      refine b_iadd d_Lw_law_1013  ?_
      obtain ⟨h277, H⟩ := H
      refine b_sald d_Lw_law_1014 h277 ?_
      refine b_aload_nS d_Lw_law_1015 rfl rfl ?_
      refine b_iload_n d_Lw_law_1016 rfl rfl ?_
      refine b_iconst (v := (2 : Int32)) d_Lw_law_1017 (by decide) ?_
      refine b_iadd d_Lw_law_1018  ?_
      obtain ⟨h278, H⟩ := H
      refine b_sald d_Lw_law_1019 h278 ?_
      refine b_aload_nS d_Lw_law_1020 rfl rfl ?_
      refine b_iload_n d_Lw_law_1021 rfl rfl ?_
      refine b_iconst (v := (3 : Int32)) d_Lw_law_1022 (by decide) ?_
      refine b_iadd d_Lw_law_1023  ?_
      obtain ⟨h279, H⟩ := H
      refine b_sald d_Lw_law_1024 h279 ?_
      refine b_callVi (Mc := m_TH_sell) (As := [.int (S.2 (x3 + (1 : Int32)).toNatClampNeg), .int (S.2 (x3 + (2 : Int32)).toNatClampNeg), .int (S.2 (x3 + (3 : Int32)).toNatClampNeg)]) (st := []) d_Lw_law_1025 ⟨⟨kA_TH_sell.1, kA_TH_sell.2.1, kA_TH_sell.2.2, by decide⟩, ml_Lw_127, kV_TH_sell⟩ (eg_0 σ) rfl rfl (Nat.le_of_ble_eq_true rfl) H (fun v280 τ281 H => ?_)
      refine b_aload_n d_Lw_law_1028 rfl rfl ?_
      refine b_aload_nS d_Lw_law_1029 rfl rfl ?_
      refine b_iload_n d_Lw_law_1030 rfl rfl ?_
      refine b_iconst (v := (1 : Int32)) d_Lw_law_1031 (by decide) ?_
      refine b_iadd d_Lw_law_1032  ?_
      obtain ⟨h282, H⟩ := H
      refine b_sald d_Lw_law_1033 h282 ?_
      refine b_aload_nS d_Lw_law_1034 rfl rfl ?_
      refine b_iload_n d_Lw_law_1035 rfl rfl ?_
      refine b_iconst (v := (2 : Int32)) d_Lw_law_1036 (by decide) ?_
      refine b_iadd d_Lw_law_1037  ?_
      obtain ⟨h283, H⟩ := H
      refine b_sald d_Lw_law_1038 h283 ?_
      refine b_aload_nS d_Lw_law_1039 rfl rfl ?_
      refine b_iload_n d_Lw_law_1040 rfl rfl ?_
      refine b_iconst (v := (3 : Int32)) d_Lw_law_1041 (by decide) ?_
      refine b_iadd d_Lw_law_1042  ?_
      obtain ⟨h284, H⟩ := H
      refine b_sald d_Lw_law_1043 h284 ?_
      refine b_callVi (Mc := m_Md_sell) (As := [.int (S.2 (x3 + (1 : Int32)).toNatClampNeg), .int (S.2 (x3 + (2 : Int32)).toNatClampNeg), .int (S.2 (x3 + (3 : Int32)).toNatClampNeg)]) (st := [.int v280]) d_Lw_law_1044 ⟨⟨kA_Md_sell.1, kA_Md_sell.2.1, kA_Md_sell.2.2, by decide⟩, ml_Lw_130, kV_Md_sell⟩ (eg_153 τ281) rfl rfl (Nat.le_of_ble_eq_true rfl) H (fun v285 τ286 H => ?_)
      refine b_icmp_eq (tgt := 1305) d_Lw_law_1047 (by decide) (fun c287 => ?_) (fun c287 => ?_)
      · have H := H.1 c287
        exact b_mask [true, true, true, true] rfl H
      · have H := H.2 c287
        refine b_iconst (v := (0 : Int32)) d_Lw_law_1050 (by decide) ?_
        exact b_iret (ty := .boolean) d_Lw_law_1051 rfl rfl ⟨_, _, rfl, rfl, H⟩
    by_cases c29 : ((S.2 x3.toNatClampNeg) &&& (63 : Int32)) = (27 : Int32)
    · have H := H.2.2.2.2.2.2.2.2.2.2.2.2.2.2.2.2.2.2.2.2.2.2.2.2.2.2.2.1 c29
      refine b_tableIn (off := 1019) (tgt := 1052) d_Lw_law_33 (by rw [c29]; decide) (by rw [c29]; decide) (by rw [c29]; rfl) (by decide) ?_
      refine b_aload_n d_Lw_law_1052 rfl rfl ?_
      refine b_aload_nS d_Lw_law_1053 rfl rfl ?_
      refine b_iload_n d_Lw_law_1054 rfl rfl ?_
      refine b_iconst (v := (1 : Int32)) d_Lw_law_1055 (by decide) ?_
      refine b_iadd d_Lw_law_1056  ?_
      obtain ⟨h288, H⟩ := H
      refine b_sald d_Lw_law_1057 h288 ?_
      refine b_aload_nS d_Lw_law_1058 rfl rfl ?_
      refine b_iload_n d_Lw_law_1059 rfl rfl ?_
      refine b_iconst (v := (2 : Int32)) d_Lw_law_1060 (by decide) ?_
      refine b_iadd d_Lw_law_1061  ?_
      obtain ⟨h289, H⟩ := H
      refine b_sald d_Lw_law_1062 h289 ?_
      refine b_callVi (Mc := m_TH_pulp) (As := [.int (S.2 (x3 + (1 : Int32)).toNatClampNeg), .int (S.2 (x3 + (2 : Int32)).toNatClampNeg)]) (st := []) d_Lw_law_1063 ⟨⟨kA_TH_pulp.1, kA_TH_pulp.2.1, kA_TH_pulp.2.2, by decide⟩, ml_Lw_131, kV_TH_pulp⟩ (eg_0 σ) rfl rfl (Nat.le_of_ble_eq_true rfl) H (fun v290 τ291 H => ?_)
      refine b_aload_n d_Lw_law_1066 rfl rfl ?_
      refine b_aload_nS d_Lw_law_1067 rfl rfl ?_
      refine b_iload_n d_Lw_law_1068 rfl rfl ?_
      refine b_iconst (v := (1 : Int32)) d_Lw_law_1069 (by decide) ?_
      refine b_iadd d_Lw_law_1070  ?_
      obtain ⟨h292, H⟩ := H
      refine b_sald d_Lw_law_1071 h292 ?_
      refine b_aload_nS d_Lw_law_1072 rfl rfl ?_
      refine b_iload_n d_Lw_law_1073 rfl rfl ?_
      refine b_iconst (v := (2 : Int32)) d_Lw_law_1074 (by decide) ?_
      refine b_iadd d_Lw_law_1075  ?_
      obtain ⟨h293, H⟩ := H
      refine b_sald d_Lw_law_1076 h293 ?_
      refine b_callVi (Mc := m_Md_pulp) (As := [.int (S.2 (x3 + (1 : Int32)).toNatClampNeg), .int (S.2 (x3 + (2 : Int32)).toNatClampNeg)]) (st := [.int v290]) d_Lw_law_1077 ⟨⟨kA_Md_pulp.1, kA_Md_pulp.2.1, kA_Md_pulp.2.2, by decide⟩, ml_Lw_134, kV_Md_pulp⟩ (eg_153 τ291) rfl rfl (Nat.le_of_ble_eq_true rfl) H (fun v294 τ295 H => ?_)
      refine b_icmp_eq (tgt := 1305) d_Lw_law_1080 (by decide) (fun c296 => ?_) (fun c296 => ?_)
      · have H := H.1 c296
        exact b_mask [true, true, true, true] rfl H
      · have H := H.2 c296
        refine b_iconst (v := (0 : Int32)) d_Lw_law_1083 (by decide) ?_
        exact b_iret (ty := .boolean) d_Lw_law_1084 rfl rfl ⟨_, _, rfl, rfl, H⟩
    by_cases c30 : ((S.2 x3.toNatClampNeg) &&& (63 : Int32)) = (28 : Int32)
    · have H := H.2.2.2.2.2.2.2.2.2.2.2.2.2.2.2.2.2.2.2.2.2.2.2.2.2.2.2.2.1 c30
      refine b_tableIn (off := 1052) (tgt := 1085) d_Lw_law_33 (by rw [c30]; decide) (by rw [c30]; decide) (by rw [c30]; rfl) (by decide) ?_
      refine b_aload_n d_Lw_law_1085 rfl rfl ?_
      refine b_aload_nS d_Lw_law_1086 rfl rfl ?_
      refine b_iload_n d_Lw_law_1087 rfl rfl ?_
      refine b_iconst (v := (1 : Int32)) d_Lw_law_1088 (by decide) ?_
      refine b_iadd d_Lw_law_1089  ?_
      obtain ⟨h297, H⟩ := H
      refine b_sald d_Lw_law_1090 h297 ?_
      refine b_aload_nS d_Lw_law_1091 rfl rfl ?_
      refine b_iload_n d_Lw_law_1092 rfl rfl ?_
      refine b_iconst (v := (2 : Int32)) d_Lw_law_1093 (by decide) ?_
      refine b_iadd d_Lw_law_1094  ?_
      obtain ⟨h298, H⟩ := H
      refine b_sald d_Lw_law_1095 h298 ?_
      refine b_aload_nS d_Lw_law_1096 rfl rfl ?_
      refine b_iload_n d_Lw_law_1097 rfl rfl ?_
      refine b_iconst (v := (3 : Int32)) d_Lw_law_1098 (by decide) ?_
      refine b_iadd d_Lw_law_1099  ?_
      obtain ⟨h299, H⟩ := H
      refine b_sald d_Lw_law_1100 h299 ?_
      refine b_callVi (Mc := m_TH_stock) (As := [.int (S.2 (x3 + (1 : Int32)).toNatClampNeg), .int (S.2 (x3 + (2 : Int32)).toNatClampNeg), .int (S.2 (x3 + (3 : Int32)).toNatClampNeg)]) (st := []) d_Lw_law_1101 ⟨⟨kA_TH_stock.1, kA_TH_stock.2.1, kA_TH_stock.2.2, by decide⟩, ml_Lw_135, kV_TH_stock⟩ (eg_0 σ) rfl rfl (Nat.le_of_ble_eq_true rfl) H (fun v300 τ301 H => ?_)
      refine b_aload_n d_Lw_law_1104 rfl rfl ?_
      refine b_aload_nS d_Lw_law_1105 rfl rfl ?_
      refine b_iload_n d_Lw_law_1106 rfl rfl ?_
      refine b_iconst (v := (1 : Int32)) d_Lw_law_1107 (by decide) ?_
      refine b_iadd d_Lw_law_1108  ?_
      obtain ⟨h302, H⟩ := H
      refine b_sald d_Lw_law_1109 h302 ?_
      refine b_aload_nS d_Lw_law_1110 rfl rfl ?_
      refine b_iload_n d_Lw_law_1111 rfl rfl ?_
      refine b_iconst (v := (2 : Int32)) d_Lw_law_1112 (by decide) ?_
      refine b_iadd d_Lw_law_1113  ?_
      obtain ⟨h303, H⟩ := H
      refine b_sald d_Lw_law_1114 h303 ?_
      refine b_aload_nS d_Lw_law_1115 rfl rfl ?_
      refine b_iload_n d_Lw_law_1116 rfl rfl ?_
      refine b_iconst (v := (3 : Int32)) d_Lw_law_1117 (by decide) ?_
      refine b_iadd d_Lw_law_1118  ?_
      obtain ⟨h304, H⟩ := H
      refine b_sald d_Lw_law_1119 h304 ?_
      refine b_callVi (Mc := m_Md_stock) (As := [.int (S.2 (x3 + (1 : Int32)).toNatClampNeg), .int (S.2 (x3 + (2 : Int32)).toNatClampNeg), .int (S.2 (x3 + (3 : Int32)).toNatClampNeg)]) (st := [.int v300]) d_Lw_law_1120 ⟨⟨kA_Md_stock.1, kA_Md_stock.2.1, kA_Md_stock.2.2, by decide⟩, ml_Lw_138, kV_Md_stock⟩ (eg_153 τ301) rfl rfl (Nat.le_of_ble_eq_true rfl) H (fun v305 τ306 H => ?_)
      refine b_icmp_eq (tgt := 1305) d_Lw_law_1123 (by decide) (fun c307 => ?_) (fun c307 => ?_)
      · have H := H.1 c307
        exact b_mask [true, true, true, true] rfl H
      · have H := H.2 c307
        refine b_iconst (v := (0 : Int32)) d_Lw_law_1126 (by decide) ?_
        exact b_iret (ty := .boolean) d_Lw_law_1127 rfl rfl ⟨_, _, rfl, rfl, H⟩
    by_cases c31 : ((S.2 x3.toNatClampNeg) &&& (63 : Int32)) = (29 : Int32)
    · have H := H.2.2.2.2.2.2.2.2.2.2.2.2.2.2.2.2.2.2.2.2.2.2.2.2.2.2.2.2.2.1 c31
      refine b_tableIn (off := 1095) (tgt := 1128) d_Lw_law_33 (by rw [c31]; decide) (by rw [c31]; decide) (by rw [c31]; rfl) (by decide) ?_
      refine b_aload_n d_Lw_law_1128 rfl rfl ?_
      refine b_aload_nS d_Lw_law_1129 rfl rfl ?_
      refine b_iload_n d_Lw_law_1130 rfl rfl ?_
      refine b_iconst (v := (1 : Int32)) d_Lw_law_1131 (by decide) ?_
      refine b_iadd d_Lw_law_1132  ?_
      obtain ⟨h308, H⟩ := H
      refine b_sald d_Lw_law_1133 h308 ?_
      refine b_aload_nS d_Lw_law_1134 rfl rfl ?_
      refine b_iload_n d_Lw_law_1135 rfl rfl ?_
      refine b_iconst (v := (2 : Int32)) d_Lw_law_1136 (by decide) ?_
      refine b_iadd d_Lw_law_1137  ?_
      obtain ⟨h309, H⟩ := H
      refine b_sald d_Lw_law_1138 h309 ?_
      refine b_aload_nS d_Lw_law_1139 rfl rfl ?_
      refine b_iload_n d_Lw_law_1140 rfl rfl ?_
      refine b_iconst (v := (3 : Int32)) d_Lw_law_1141 (by decide) ?_
      refine b_iadd d_Lw_law_1142  ?_
      obtain ⟨h310, H⟩ := H
      refine b_sald d_Lw_law_1143 h310 ?_
      refine b_aload_nS d_Lw_law_1144 rfl rfl ?_
      refine b_iload_n d_Lw_law_1145 rfl rfl ?_
      refine b_iconst (v := (4 : Int32)) d_Lw_law_1146 (by decide) ?_
      refine b_iadd d_Lw_law_1147  ?_
      obtain ⟨h311, H⟩ := H
      refine b_sald d_Lw_law_1148 h311 ?_
      refine b_callVi (Mc := m_TH_volume) (As := [.int (S.2 (x3 + (1 : Int32)).toNatClampNeg), .int (S.2 (x3 + (2 : Int32)).toNatClampNeg), .int (S.2 (x3 + (3 : Int32)).toNatClampNeg), .int (S.2 (x3 + (4 : Int32)).toNatClampNeg)]) (st := []) d_Lw_law_1149 ⟨⟨kA_TH_volume.1, kA_TH_volume.2.1, kA_TH_volume.2.2, by decide⟩, ml_Lw_139, kV_TH_volume⟩ (eg_0 σ) rfl rfl (Nat.le_of_ble_eq_true rfl) H (fun v312 τ313 H => ?_)
      refine b_aload_n d_Lw_law_1152 rfl rfl ?_
      refine b_aload_nS d_Lw_law_1153 rfl rfl ?_
      refine b_iload_n d_Lw_law_1154 rfl rfl ?_
      refine b_iconst (v := (1 : Int32)) d_Lw_law_1155 (by decide) ?_
      refine b_iadd d_Lw_law_1156  ?_
      obtain ⟨h314, H⟩ := H
      refine b_sald d_Lw_law_1157 h314 ?_
      refine b_aload_nS d_Lw_law_1158 rfl rfl ?_
      refine b_iload_n d_Lw_law_1159 rfl rfl ?_
      refine b_iconst (v := (2 : Int32)) d_Lw_law_1160 (by decide) ?_
      refine b_iadd d_Lw_law_1161  ?_
      obtain ⟨h315, H⟩ := H
      refine b_sald d_Lw_law_1162 h315 ?_
      refine b_aload_nS d_Lw_law_1163 rfl rfl ?_
      refine b_iload_n d_Lw_law_1164 rfl rfl ?_
      refine b_iconst (v := (3 : Int32)) d_Lw_law_1165 (by decide) ?_
      refine b_iadd d_Lw_law_1166  ?_
      obtain ⟨h316, H⟩ := H
      refine b_sald d_Lw_law_1167 h316 ?_
      refine b_aload_nS d_Lw_law_1168 rfl rfl ?_
      refine b_iload_n d_Lw_law_1169 rfl rfl ?_
      refine b_iconst (v := (4 : Int32)) d_Lw_law_1170 (by decide) ?_
      refine b_iadd d_Lw_law_1171  ?_
      obtain ⟨h317, H⟩ := H
      refine b_sald d_Lw_law_1172 h317 ?_
      refine b_callVi (Mc := m_Md_volume) (As := [.int (S.2 (x3 + (1 : Int32)).toNatClampNeg), .int (S.2 (x3 + (2 : Int32)).toNatClampNeg), .int (S.2 (x3 + (3 : Int32)).toNatClampNeg), .int (S.2 (x3 + (4 : Int32)).toNatClampNeg)]) (st := [.int v312]) d_Lw_law_1173 ⟨⟨kA_Md_volume.1, kA_Md_volume.2.1, kA_Md_volume.2.2, by decide⟩, ml_Lw_143, kV_Md_volume⟩ (eg_153 τ313) rfl rfl (Nat.le_of_ble_eq_true rfl) H (fun v318 τ319 H => ?_)
      refine b_icmp_eq (tgt := 1305) d_Lw_law_1176 (by decide) (fun c320 => ?_) (fun c320 => ?_)
      · have H := H.1 c320
        exact b_mask [true, true, true, true] rfl H
      · have H := H.2 c320
        refine b_iconst (v := (0 : Int32)) d_Lw_law_1179 (by decide) ?_
        exact b_iret (ty := .boolean) d_Lw_law_1180 rfl rfl ⟨_, _, rfl, rfl, H⟩
    by_cases c32 : ((S.2 x3.toNatClampNeg) &&& (63 : Int32)) = (30 : Int32)
    · have H := H.2.2.2.2.2.2.2.2.2.2.2.2.2.2.2.2.2.2.2.2.2.2.2.2.2.2.2.2.2.2.1 c32
      refine b_tableIn (off := 1148) (tgt := 1181) d_Lw_law_33 (by rw [c32]; decide) (by rw [c32]; decide) (by rw [c32]; rfl) (by decide) ?_
      refine b_aload_n d_Lw_law_1181 rfl rfl ?_
      refine b_aload_nS d_Lw_law_1182 rfl rfl ?_
      refine b_iload_n d_Lw_law_1183 rfl rfl ?_
      refine b_iconst (v := (1 : Int32)) d_Lw_law_1184 (by decide) ?_
      refine b_iadd d_Lw_law_1185  ?_
      obtain ⟨h321, H⟩ := H
      refine b_sald d_Lw_law_1186 h321 ?_
      refine b_aload_nS d_Lw_law_1187 rfl rfl ?_
      refine b_iload_n d_Lw_law_1188 rfl rfl ?_
      refine b_iconst (v := (2 : Int32)) d_Lw_law_1189 (by decide) ?_
      refine b_iadd d_Lw_law_1190  ?_
      obtain ⟨h322, H⟩ := H
      refine b_sald d_Lw_law_1191 h322 ?_
      refine b_callVi (Mc := m_TH_foretell) (As := [.int (S.2 (x3 + (1 : Int32)).toNatClampNeg), .int (S.2 (x3 + (2 : Int32)).toNatClampNeg)]) (st := []) d_Lw_law_1192 ⟨⟨kA_TH_foretell.1, kA_TH_foretell.2.1, kA_TH_foretell.2.2, by decide⟩, ml_Lw_144, kV_TH_foretell⟩ (eg_0 σ) rfl rfl (Nat.le_of_ble_eq_true rfl) H (fun v323 τ324 H => ?_)
      refine b_aload_n d_Lw_law_1195 rfl rfl ?_
      refine b_aload_nS d_Lw_law_1196 rfl rfl ?_
      refine b_iload_n d_Lw_law_1197 rfl rfl ?_
      refine b_iconst (v := (1 : Int32)) d_Lw_law_1198 (by decide) ?_
      refine b_iadd d_Lw_law_1199  ?_
      obtain ⟨h325, H⟩ := H
      refine b_sald d_Lw_law_1200 h325 ?_
      refine b_aload_nS d_Lw_law_1201 rfl rfl ?_
      refine b_iload_n d_Lw_law_1202 rfl rfl ?_
      refine b_iconst (v := (2 : Int32)) d_Lw_law_1203 (by decide) ?_
      refine b_iadd d_Lw_law_1204  ?_
      obtain ⟨h326, H⟩ := H
      refine b_sald d_Lw_law_1205 h326 ?_
      refine b_callVi (Mc := m_Md_foretell) (As := [.int (S.2 (x3 + (1 : Int32)).toNatClampNeg), .int (S.2 (x3 + (2 : Int32)).toNatClampNeg)]) (st := [.int v323]) d_Lw_law_1206 ⟨⟨kA_Md_foretell.1, kA_Md_foretell.2.1, kA_Md_foretell.2.2, by decide⟩, ml_Lw_147, kV_Md_foretell⟩ (eg_153 τ324) rfl rfl (Nat.le_of_ble_eq_true rfl) H (fun v327 τ328 H => ?_)
      refine b_icmp_eq (tgt := 1305) d_Lw_law_1209 (by decide) (fun c329 => ?_) (fun c329 => ?_)
      · have H := H.1 c329
        exact b_mask [true, true, true, true] rfl H
      · have H := H.2 c329
        refine b_iconst (v := (0 : Int32)) d_Lw_law_1212 (by decide) ?_
        exact b_iret (ty := .boolean) d_Lw_law_1213 rfl rfl ⟨_, _, rfl, rfl, H⟩
    by_cases c33 : ((S.2 x3.toNatClampNeg) &&& (63 : Int32)) = (31 : Int32)
    · have H := H.2.2.2.2.2.2.2.2.2.2.2.2.2.2.2.2.2.2.2.2.2.2.2.2.2.2.2.2.2.2.2.1 c33
      refine b_tableIn (off := 1181) (tgt := 1214) d_Lw_law_33 (by rw [c33]; decide) (by rw [c33]; decide) (by rw [c33]; rfl) (by decide) ?_
      refine b_aload_n d_Lw_law_1214 rfl rfl ?_
      refine b_aload_nS d_Lw_law_1215 rfl rfl ?_
      refine b_iload_n d_Lw_law_1216 rfl rfl ?_
      refine b_iconst (v := (1 : Int32)) d_Lw_law_1217 (by decide) ?_
      refine b_iadd d_Lw_law_1218  ?_
      obtain ⟨h330, H⟩ := H
      refine b_sald d_Lw_law_1219 h330 ?_
      refine b_aload_nS d_Lw_law_1220 rfl rfl ?_
      refine b_iload_n d_Lw_law_1221 rfl rfl ?_
      refine b_iconst (v := (2 : Int32)) d_Lw_law_1222 (by decide) ?_
      refine b_iadd d_Lw_law_1223  ?_
      obtain ⟨h331, H⟩ := H
      refine b_sald d_Lw_law_1224 h331 ?_
      refine b_callVi (Mc := m_TH_best) (As := [.int (S.2 (x3 + (1 : Int32)).toNatClampNeg), .int (S.2 (x3 + (2 : Int32)).toNatClampNeg)]) (st := []) d_Lw_law_1225 ⟨⟨kA_TH_best.1, kA_TH_best.2.1, kA_TH_best.2.2, by decide⟩, ml_Lw_148, kV_TH_best⟩ (eg_0 σ) rfl rfl (Nat.le_of_ble_eq_true rfl) H (fun v332 τ333 H => ?_)
      refine b_aload_n d_Lw_law_1228 rfl rfl ?_
      refine b_aload_nS d_Lw_law_1229 rfl rfl ?_
      refine b_iload_n d_Lw_law_1230 rfl rfl ?_
      refine b_iconst (v := (1 : Int32)) d_Lw_law_1231 (by decide) ?_
      refine b_iadd d_Lw_law_1232  ?_
      obtain ⟨h334, H⟩ := H
      refine b_sald d_Lw_law_1233 h334 ?_
      refine b_aload_nS d_Lw_law_1234 rfl rfl ?_
      refine b_iload_n d_Lw_law_1235 rfl rfl ?_
      refine b_iconst (v := (2 : Int32)) d_Lw_law_1236 (by decide) ?_
      refine b_iadd d_Lw_law_1237  ?_
      obtain ⟨h335, H⟩ := H
      refine b_sald d_Lw_law_1238 h335 ?_
      refine b_callVi (Mc := m_Md_best) (As := [.int (S.2 (x3 + (1 : Int32)).toNatClampNeg), .int (S.2 (x3 + (2 : Int32)).toNatClampNeg)]) (st := [.int v332]) d_Lw_law_1239 ⟨⟨kA_Md_best.1, kA_Md_best.2.1, kA_Md_best.2.2, by decide⟩, ml_Lw_151, kV_Md_best⟩ (eg_153 τ333) rfl rfl (Nat.le_of_ble_eq_true rfl) H (fun v336 τ337 H => ?_)
      refine b_icmp_eq (tgt := 1305) d_Lw_law_1242 (by decide) (fun c338 => ?_) (fun c338 => ?_)
      · have H := H.1 c338
        exact b_mask [true, true, true, true] rfl H
      · have H := H.2 c338
        refine b_iconst (v := (0 : Int32)) d_Lw_law_1245 (by decide) ?_
        exact b_iret (ty := .boolean) d_Lw_law_1246 rfl rfl ⟨_, _, rfl, rfl, H⟩
    by_cases c34 : ((S.2 x3.toNatClampNeg) &&& (63 : Int32)) = (32 : Int32)
    · have H := H.2.2.2.2.2.2.2.2.2.2.2.2.2.2.2.2.2.2.2.2.2.2.2.2.2.2.2.2.2.2.2.2.1 c34
      refine b_tableIn (off := 1214) (tgt := 1247) d_Lw_law_33 (by rw [c34]; decide) (by rw [c34]; decide) (by rw [c34]; rfl) (by decide) ?_
      refine b_aload_n d_Lw_law_1247 rfl rfl ?_
      refine b_aload_nS d_Lw_law_1248 rfl rfl ?_
      refine b_iload_n d_Lw_law_1249 rfl rfl ?_
      refine b_iconst (v := (1 : Int32)) d_Lw_law_1250 (by decide) ?_
      refine b_iadd d_Lw_law_1251  ?_
      obtain ⟨h339, H⟩ := H
      refine b_sald d_Lw_law_1252 h339 ?_
      refine b_aload_nS d_Lw_law_1253 rfl rfl ?_
      refine b_iload_n d_Lw_law_1254 rfl rfl ?_
      refine b_iconst (v := (2 : Int32)) d_Lw_law_1255 (by decide) ?_
      refine b_iadd d_Lw_law_1256  ?_
      obtain ⟨h340, H⟩ := H
      refine b_sald d_Lw_law_1257 h340 ?_
      refine b_aload_nS d_Lw_law_1258 rfl rfl ?_
      refine b_iload_n d_Lw_law_1259 rfl rfl ?_
      refine b_iconst (v := (3 : Int32)) d_Lw_law_1260 (by decide) ?_
      refine b_iadd d_Lw_law_1261  ?_
      obtain ⟨h341, H⟩ := H
      refine b_sald d_Lw_law_1262 h341 ?_
      refine b_callVl (Mc := m_TH_worth) (As := [.int (S.2 (x3 + (1 : Int32)).toNatClampNeg), .int (S.2 (x3 + (2 : Int32)).toNatClampNeg), .int (S.2 (x3 + (3 : Int32)).toNatClampNeg)]) (st := []) d_Lw_law_1263 ⟨⟨kA_TH_worth.1, kA_TH_worth.2.1, kA_TH_worth.2.2, by decide⟩, ml_Lw_152, kV_TH_worth⟩ (eg_0 σ) rfl rfl (Nat.le_of_ble_eq_true rfl) H (fun v342 τ343 H => ?_)
      refine b_aload_n d_Lw_law_1266 rfl rfl ?_
      refine b_aload_nS d_Lw_law_1267 rfl rfl ?_
      refine b_iload_n d_Lw_law_1268 rfl rfl ?_
      refine b_iconst (v := (1 : Int32)) d_Lw_law_1269 (by decide) ?_
      refine b_iadd d_Lw_law_1270  ?_
      obtain ⟨h344, H⟩ := H
      refine b_sald d_Lw_law_1271 h344 ?_
      refine b_aload_nS d_Lw_law_1272 rfl rfl ?_
      refine b_iload_n d_Lw_law_1273 rfl rfl ?_
      refine b_iconst (v := (2 : Int32)) d_Lw_law_1274 (by decide) ?_
      refine b_iadd d_Lw_law_1275  ?_
      obtain ⟨h345, H⟩ := H
      refine b_sald d_Lw_law_1276 h345 ?_
      refine b_aload_nS d_Lw_law_1277 rfl rfl ?_
      refine b_iload_n d_Lw_law_1278 rfl rfl ?_
      refine b_iconst (v := (3 : Int32)) d_Lw_law_1279 (by decide) ?_
      refine b_iadd d_Lw_law_1280  ?_
      obtain ⟨h346, H⟩ := H
      refine b_sald d_Lw_law_1281 h346 ?_
      refine b_callVl (Mc := m_Md_worth) (As := [.int (S.2 (x3 + (1 : Int32)).toNatClampNeg), .int (S.2 (x3 + (2 : Int32)).toNatClampNeg), .int (S.2 (x3 + (3 : Int32)).toNatClampNeg)]) (st := [.long v342]) d_Lw_law_1282 ⟨⟨kA_Md_worth.1, kA_Md_worth.2.1, kA_Md_worth.2.2, by decide⟩, ml_Lw_156, kV_Md_worth⟩ (eg_153 τ343) rfl rfl (Nat.le_of_ble_eq_true rfl) H (fun v347 τ348 H => ?_)
      refine b_lcmp d_Lw_law_1285 ?_
      refine b_if_eq (tgt := 1305) d_Lw_law_1286 (by decide) (fun c349 => ?_) (fun c349 => ?_)
      · have H := H.1 c349
        exact b_mask [true, true, true, true] rfl H
      · have H := H.2 c349
        refine b_iconst (v := (0 : Int32)) d_Lw_law_1289 (by decide) ?_
        exact b_iret (ty := .boolean) d_Lw_law_1290 rfl rfl ⟨_, _, rfl, rfl, H⟩
    by_cases c35 : ((S.2 x3.toNatClampNeg) &&& (63 : Int32)) = (33 : Int32)
    · have H := H.2.2.2.2.2.2.2.2.2.2.2.2.2.2.2.2.2.2.2.2.2.2.2.2.2.2.2.2.2.2.2.2.2.1 c35
      refine b_tableIn (off := 1258) (tgt := 1291) d_Lw_law_33 (by rw [c35]; decide) (by rw [c35]; decide) (by rw [c35]; rfl) (by decide) ?_
      refine b_aload_n d_Lw_law_1291 rfl rfl ?_
      refine b_callVl (Mc := m_TH_purse) (As := []) (st := []) d_Lw_law_1292 ⟨⟨kA_TH_purse.1, kA_TH_purse.2.1, kA_TH_purse.2.2, by decide⟩, ml_Lw_157, kV_TH_purse⟩ (eg_0 σ) rfl rfl (Nat.le_of_ble_eq_true rfl) H (fun v350 τ351 H => ?_)
      refine b_aload_n d_Lw_law_1295 rfl rfl ?_
      refine b_callVl (Mc := m_Md_purse) (As := []) (st := [.long v350]) d_Lw_law_1296 ⟨⟨kA_Md_purse.1, kA_Md_purse.2.1, kA_Md_purse.2.2, by decide⟩, ml_Lw_161, kV_Md_purse⟩ (eg_153 τ351) rfl rfl (Nat.le_of_ble_eq_true rfl) H (fun v352 τ353 H => ?_)
      refine b_lcmp d_Lw_law_1299 ?_
      refine b_if_eq (tgt := 1305) d_Lw_law_1300 (by decide) (fun c354 => ?_) (fun c354 => ?_)
      · have H := H.1 c354
        exact b_mask [true, true, true, true] rfl H
      · have H := H.2 c354
        refine b_iconst (v := (0 : Int32)) d_Lw_law_1303 (by decide) ?_
        exact b_iret (ty := .boolean) d_Lw_law_1304 rfl rfl ⟨_, _, rfl, rfl, H⟩
    have H := H.2.2.2.2.2.2.2.2.2.2.2.2.2.2.2.2.2.2.2.2.2.2.2.2.2.2.2.2.2.2.2.2.2.2 c2 c3 c4 c5 c6 c7 c8 c9 c10 c11 c12 c13 c14 c15 c16 c17 c18 c19 c20 c21 c22 c23 c24 c25 c26 c27 c28 c29 c30 c31 c32 c33 c34 c35
    refine b_tableOut (tgt := 1305) d_Lw_law_33 (tabOut 34 (fun k hk e => ?_)) (by decide) ?_
    · match k, hk, e with
      | 0, _, e => exact c2 (Int32.toInt_inj.mp (e.trans (by decide)))
      | 1, _, e => exact c3 (Int32.toInt_inj.mp (e.trans (by decide)))
      | 2, _, e => exact c4 (Int32.toInt_inj.mp (e.trans (by decide)))
      | 3, _, e => exact c5 (Int32.toInt_inj.mp (e.trans (by decide)))
      | 4, _, e => exact c6 (Int32.toInt_inj.mp (e.trans (by decide)))
      | 5, _, e => exact c7 (Int32.toInt_inj.mp (e.trans (by decide)))
      | 6, _, e => exact c8 (Int32.toInt_inj.mp (e.trans (by decide)))
      | 7, _, e => exact c9 (Int32.toInt_inj.mp (e.trans (by decide)))
      | 8, _, e => exact c10 (Int32.toInt_inj.mp (e.trans (by decide)))
      | 9, _, e => exact c11 (Int32.toInt_inj.mp (e.trans (by decide)))
      | 10, _, e => exact c12 (Int32.toInt_inj.mp (e.trans (by decide)))
      | 11, _, e => exact c13 (Int32.toInt_inj.mp (e.trans (by decide)))
      | 12, _, e => exact c14 (Int32.toInt_inj.mp (e.trans (by decide)))
      | 13, _, e => exact c15 (Int32.toInt_inj.mp (e.trans (by decide)))
      | 14, _, e => exact c16 (Int32.toInt_inj.mp (e.trans (by decide)))
      | 15, _, e => exact c17 (Int32.toInt_inj.mp (e.trans (by decide)))
      | 16, _, e => exact c18 (Int32.toInt_inj.mp (e.trans (by decide)))
      | 17, _, e => exact c19 (Int32.toInt_inj.mp (e.trans (by decide)))
      | 18, _, e => exact c20 (Int32.toInt_inj.mp (e.trans (by decide)))
      | 19, _, e => exact c21 (Int32.toInt_inj.mp (e.trans (by decide)))
      | 20, _, e => exact c22 (Int32.toInt_inj.mp (e.trans (by decide)))
      | 21, _, e => exact c23 (Int32.toInt_inj.mp (e.trans (by decide)))
      | 22, _, e => exact c24 (Int32.toInt_inj.mp (e.trans (by decide)))
      | 23, _, e => exact c25 (Int32.toInt_inj.mp (e.trans (by decide)))
      | 24, _, e => exact c26 (Int32.toInt_inj.mp (e.trans (by decide)))
      | 25, _, e => exact c27 (Int32.toInt_inj.mp (e.trans (by decide)))
      | 26, _, e => exact c28 (Int32.toInt_inj.mp (e.trans (by decide)))
      | 27, _, e => exact c29 (Int32.toInt_inj.mp (e.trans (by decide)))
      | 28, _, e => exact c30 (Int32.toInt_inj.mp (e.trans (by decide)))
      | 29, _, e => exact c31 (Int32.toInt_inj.mp (e.trans (by decide)))
      | 30, _, e => exact c32 (Int32.toInt_inj.mp (e.trans (by decide)))
      | 31, _, e => exact c33 (Int32.toInt_inj.mp (e.trans (by decide)))
      | 32, _, e => exact c34 (Int32.toInt_inj.mp (e.trans (by decide)))
      | 33, _, e => exact c35 (Int32.toInt_inj.mp (e.trans (by decide)))
      | (k + 34), hk, _ => omega
    exact b_mask [true, true, true, true] rfl H
set_option maxHeartbeats 4000000 in
set_option maxRecDepth 100000 in
theorem B_Lw_law_1305 {S : XS} {Q : Int32 → St → Prop} (σ : St) (x3 : Int32) (H : BW S m_Lw_law 18 [some (.retAddr 99), some (.ref 0), some (.ref 153), some (.int (x3 + (6 : Int32)))] [] (enc σ) (qI Q)) : BW S m_Lw_law 1305 [some (.retAddr 99), some (.ref 0), some (.ref 153), some (.int x3)] [] (enc σ) (qI Q) := by
  refine b_iinc (v := (x3 + (6 : Int32))) (ls' := [some (.retAddr 99), some (.ref 0), some (.ref 153), some (.int (x3 + (6 : Int32)))]) d_Lw_law_1305 rfl rfl (Nat.le_of_ble_eq_true rfl) rfl ?_
  refine b_goto (tgt := 18) d_Lw_law_1308 (by decide) ?_
  exact b_mask [true, true, true, true] rfl H
