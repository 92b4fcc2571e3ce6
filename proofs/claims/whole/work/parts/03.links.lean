theorem mj_lkF_ok : mj_lkF.all (fun w => mj_has w.2.2.2.2 (.fieldLink (mj_on w.1) w.2.1 (mj_tf w.2.2.1 w.2.2.2.1).1 (mj_tf w.2.2.1 w.2.2.2.1).2.1 (mj_tf w.2.2.1 w.2.2.2.1).2.2.1) && decide (w.2.2.2.1 < mj_nf w.2.2.1)) = true := by decide +kernel
theorem mj_lkM_ok : mj_lkM.all (fun w => mj_has w.2.2.2 (.methodLink (mj_on w.1) w.2.1 (mj_y w.2.2.1))) = true := by decide +kernel
theorem mj_lkO_ok : mj_lkO.all (fun w => mj_has w.2.2 (.methodLink (mj_on w.1) w.2.1 Lib.objectInit)) = true := by decide +kernel
theorem mj_lkC_ok : mj_lkC.all (fun w => mj_has w.2.2.2 (.classLink (mj_on w.1) w.2.1 (mj_on w.2.2.1))) = true := by decide +kernel
theorem mj_lkL_ok : mj_lkL.all (fun w => mj_has w.2.2.2 (.constantLong (mj_on w.1) w.2.1 (mj_lng w.2.2.1))) = true := by decide +kernel
theorem mj_lkI_ok : mj_lkI.all (fun w => mj_has w.2.2.2 (.constant (mj_on w.1) w.2.1 (Int32.ofNat w.2.2.1))) = true := by decide +kernel
theorem mj_nest_ok : (mj_nest.zip [67, 88, 199, 216]).all (fun q => decide (lw_tbl[q.2]? = some (Cond.methodLinkNest q.1.1 q.1.2.1 q.1.2.2.1 q.1.2.2.2))) = true := by decide +kernel
theorem mj_ini_ok : (List.range 11).all (fun k => mj_has (mj_inip.getD k 0) (.initialized (mj_on k))) = true := by decide +kernel
theorem mj_ins_ok : (List.range 8).all (fun k => mj_has (mj_insp.getD k 0) (.instantiable (mj_on k) (mj_nf k))) = true := by decide +kernel
theorem mj_chM_0 : ∀ k, k < 30 → mj_chM (0 + k) = true := by decide +kernel
theorem mj_chM_30 : ∀ k, k < 30 → mj_chM (30 + k) = true := by decide +kernel
theorem mj_chM_60 : ∀ k, k < 30 → mj_chM (60 + k) = true := by decide +kernel
theorem mj_chM_90 : ∀ k, k < 30 → mj_chM (90 + k) = true := by decide +kernel
theorem mj_chM_120 : ∀ k, k < 30 → mj_chM (120 + k) = true := by decide +kernel
theorem mj_chM_150 : ∀ k, k < 17 → mj_chM (150 + k) = true := by decide +kernel
theorem mj_cd0 : lw_tbl[181]? = some (.code (mj_y 0) (mj_b 0) (mj_m 0) (mj_r 0)) := by decide +kernel
theorem mj_cd1 : lw_tbl[368]? = some (.code (mj_y 1) (mj_b 1) (mj_m 1) (mj_r 1)) := by decide +kernel
theorem mj_cd2 : lw_tbl[440]? = some (.code (mj_y 2) (mj_b 2) (mj_m 2) (mj_r 2)) := by decide +kernel
theorem mj_cd3 : lw_tbl[444]? = some (.code (mj_y 3) (mj_b 3) (mj_m 3) (mj_r 3)) := by decide +kernel
theorem mj_cd4 : lw_tbl[500]? = some (.code (mj_y 4) (mj_b 4) (mj_m 4) (mj_r 4)) := by decide +kernel
theorem mj_cd5 : lw_tbl[201]? = some (.code (mj_y 5) (mj_b 5) (mj_m 5) (mj_r 5)) := by decide +kernel
theorem mj_cd6 : lw_tbl[598]? = some (.code (mj_y 6) (mj_b 6) (mj_m 6) (mj_r 6)) := by decide +kernel
theorem mj_cd7 : lw_tbl[602]? = some (.code (mj_y 7) (mj_b 7) (mj_m 7) (mj_r 7)) := by decide +kernel
theorem mj_cd8 : lw_tbl[606]? = some (.code (mj_y 8) (mj_b 8) (mj_m 8) (mj_r 8)) := by decide +kernel
theorem mj_cd9 : lw_tbl[147]? = some (.code (mj_y 9) (mj_b 9) (mj_m 9) (mj_r 9)) := by decide +kernel
theorem mj_cd10 : lw_tbl[364]? = some (.code (mj_y 10) (mj_b 10) (mj_m 10) (mj_r 10)) := by decide +kernel
theorem mj_cd11 : lw_tbl[384]? = some (.code (mj_y 11) (mj_b 11) (mj_m 11) (mj_r 11)) := by decide +kernel
theorem mj_cd12 : lw_tbl[388]? = some (.code (mj_y 12) (mj_b 12) (mj_m 12) (mj_r 12)) := by decide +kernel
theorem mj_cd13 : lw_tbl[402]? = some (.code (mj_y 13) (mj_b 13) (mj_m 13) (mj_r 13)) := by decide +kernel
theorem mj_cd14 : lw_tbl[410]? = some (.code (mj_y 14) (mj_b 14) (mj_m 14) (mj_r 14)) := by decide +kernel
theorem mj_cd15 : lw_tbl[414]? = some (.code (mj_y 15) (mj_b 15) (mj_m 15) (mj_r 15)) := by decide +kernel
theorem mj_cd16 : lw_tbl[435]? = some (.code (mj_y 16) (mj_b 16) (mj_m 16) (mj_r 16)) := by decide +kernel
theorem mj_cd17 : lw_tbl[448]? = some (.code (mj_y 17) (mj_b 17) (mj_m 17) (mj_r 17)) := by decide +kernel
theorem mj_cd18 : lw_tbl[452]? = some (.code (mj_y 18) (mj_b 18) (mj_m 18) (mj_r 18)) := by decide +kernel
theorem mj_cd19 : lw_tbl[457]? = some (.code (mj_y 19) (mj_b 19) (mj_m 19) (mj_r 19)) := by decide +kernel
theorem mj_cd20 : lw_tbl[465]? = some (.code (mj_y 20) (mj_b 20) (mj_m 20) (mj_r 20)) := by decide +kernel
theorem mj_cd21 : lw_tbl[473]? = some (.code (mj_y 21) (mj_b 21) (mj_m 21) (mj_r 21)) := by decide +kernel
theorem mj_cd22 : lw_tbl[481]? = some (.code (mj_y 22) (mj_b 22) (mj_m 22) (mj_r 22)) := by decide +kernel
theorem mj_cd23 : lw_tbl[492]? = some (.code (mj_y 23) (mj_b 23) (mj_m 23) (mj_r 23)) := by decide +kernel
theorem mj_cd24 : lw_tbl[537]? = some (.code (mj_y 24) (mj_b 24) (mj_m 24) (mj_r 24)) := by decide +kernel
theorem mj_cd25 : lw_tbl[90]? = some (.code (mj_y 25) (mj_b 25) (mj_m 25) (mj_r 25)) := by decide +kernel
theorem mj_cd26 : lw_tbl[290]? = some (.code (mj_y 26) (mj_b 26) (mj_m 26) (mj_r 26)) := by decide +kernel
theorem mj_cd27 : lw_tbl[314]? = some (.code (mj_y 27) (mj_b 27) (mj_m 27) (mj_r 27)) := by decide +kernel
theorem mj_cd28 : lw_tbl[318]? = some (.code (mj_y 28) (mj_b 28) (mj_m 28) (mj_r 28)) := by decide +kernel
theorem mj_cd29 : lw_tbl[322]? = some (.code (mj_y 29) (mj_b 29) (mj_m 29) (mj_r 29)) := by decide +kernel
theorem mj_cd30 : lw_tbl[326]? = some (.code (mj_y 30) (mj_b 30) (mj_m 30) (mj_r 30)) := by decide +kernel
theorem mj_cd31 : lw_tbl[330]? = some (.code (mj_y 31) (mj_b 31) (mj_m 31) (mj_r 31)) := by decide +kernel
theorem mj_cd32 : lw_tbl[334]? = some (.code (mj_y 32) (mj_b 32) (mj_m 32) (mj_r 32)) := by decide +kernel
theorem mj_cd33 : lw_tbl[348]? = some (.code (mj_y 33) (mj_b 33) (mj_m 33) (mj_r 33)) := by decide +kernel
theorem mj_cd34 : lw_tbl[356]? = some (.code (mj_y 34) (mj_b 34) (mj_m 34) (mj_r 34)) := by decide +kernel
theorem mj_cd35 : lw_tbl[376]? = some (.code (mj_y 35) (mj_b 35) (mj_m 35) (mj_r 35)) := by decide +kernel
theorem mj_cd36 : lw_tbl[380]? = some (.code (mj_y 36) (mj_b 36) (mj_m 36) (mj_r 36)) := by decide +kernel
theorem mj_cd37 : lw_tbl[393]? = some (.code (mj_y 37) (mj_b 37) (mj_m 37) (mj_r 37)) := by decide +kernel
theorem mj_cd38 : lw_tbl[406]? = some (.code (mj_y 38) (mj_b 38) (mj_m 38) (mj_r 38)) := by decide +kernel
theorem mj_cd39 : lw_tbl[426]? = some (.code (mj_y 39) (mj_b 39) (mj_m 39) (mj_r 39)) := by decide +kernel
theorem mj_cd40 : lw_tbl[485]? = some (.code (mj_y 40) (mj_b 40) (mj_m 40) (mj_r 40)) := by decide +kernel
theorem mj_cd41 : lw_tbl[512]? = some (.code (mj_y 41) (mj_b 41) (mj_m 41) (mj_r 41)) := by decide +kernel
theorem mj_cd42 : lw_tbl[611]? = some (.code (mj_y 42) (mj_b 42) (mj_m 42) (mj_r 42)) := by decide +kernel
theorem mj_cd43 : lw_tbl[634]? = some (.code (mj_y 43) (mj_b 43) (mj_m 43) (mj_r 43)) := by decide +kernel
theorem mj_cd44 : lw_tbl[218]? = some (.code (mj_y 44) (mj_b 44) (mj_m 44) (mj_r 44)) := by decide +kernel
theorem mj_cd45 : lw_tbl[550]? = some (.code (mj_y 45) (mj_b 45) (mj_m 45) (mj_r 45)) := by decide +kernel
theorem mj_cd46 : lw_tbl[554]? = some (.code (mj_y 46) (mj_b 46) (mj_m 46) (mj_r 46)) := by decide +kernel
theorem mj_cd47 : lw_tbl[558]? = some (.code (mj_y 47) (mj_b 47) (mj_m 47) (mj_r 47)) := by decide +kernel
theorem mj_cd48 : lw_tbl[69]? = some (.code (mj_y 48) (mj_b 48) (mj_m 48) (mj_r 48)) := by decide +kernel
theorem mj_cd49 : lw_tbl[274]? = some (.code (mj_y 49) (mj_b 49) (mj_m 49) (mj_r 49)) := by decide +kernel
theorem mj_cd50 : lw_tbl[286]? = some (.code (mj_y 50) (mj_b 50) (mj_m 50) (mj_r 50)) := by decide +kernel
theorem mj_cd51 : lw_tbl[294]? = some (.code (mj_y 51) (mj_b 51) (mj_m 51) (mj_r 51)) := by decide +kernel
theorem mj_cd52 : lw_tbl[298]? = some (.code (mj_y 52) (mj_b 52) (mj_m 52) (mj_r 52)) := by decide +kernel
theorem mj_cd53 : lw_tbl[302]? = some (.code (mj_y 53) (mj_b 53) (mj_m 53) (mj_r 53)) := by decide +kernel
theorem mj_cd54 : lw_tbl[306]? = some (.code (mj_y 54) (mj_b 54) (mj_m 54) (mj_r 54)) := by decide +kernel
theorem mj_cd55 : lw_tbl[310]? = some (.code (mj_y 55) (mj_b 55) (mj_m 55) (mj_r 55)) := by decide +kernel
theorem mj_cd56 : lw_tbl[338]? = some (.code (mj_y 56) (mj_b 56) (mj_m 56) (mj_r 56)) := by decide +kernel
theorem mj_cd57 : lw_tbl[343]? = some (.code (mj_y 57) (mj_b 57) (mj_m 57) (mj_r 57)) := by decide +kernel
theorem mj_cd58 : lw_tbl[352]? = some (.code (mj_y 58) (mj_b 58) (mj_m 58) (mj_r 58)) := by decide +kernel
theorem mj_cd59 : lw_tbl[61]? = some (.code (mj_y 59) (mj_b 59) (mj_m 59) (mj_r 59)) := by decide +kernel
theorem mj_cd60 : lw_tbl[270]? = some (.code (mj_y 60) (mj_b 60) (mj_m 60) (mj_r 60)) := by decide +kernel
theorem mj_cd61 : lw_tbl[278]? = some (.code (mj_y 61) (mj_b 61) (mj_m 61) (mj_r 61)) := by decide +kernel
theorem mj_cd62 : lw_tbl[282]? = some (.code (mj_y 62) (mj_b 62) (mj_m 62) (mj_r 62)) := by decide +kernel
theorem mj_cd63 : lw_tbl[360]? = some (.code (mj_y 63) (mj_b 63) (mj_m 63) (mj_r 63)) := by decide +kernel
theorem mj_cd64 : lw_tbl[372]? = some (.code (mj_y 64) (mj_b 64) (mj_m 64) (mj_r 64)) := by decide +kernel
theorem mj_cd65 : lw_tbl[397]? = some (.code (mj_y 65) (mj_b 65) (mj_m 65) (mj_r 65)) := by decide +kernel
theorem mj_cd66 : lw_tbl[422]? = some (.code (mj_y 66) (mj_b 66) (mj_m 66) (mj_r 66)) := by decide +kernel
theorem mj_cd67 : lw_tbl[430]? = some (.code (mj_y 67) (mj_b 67) (mj_m 67) (mj_r 67)) := by decide +kernel
theorem mj_cd68 : lw_tbl[461]? = some (.code (mj_y 68) (mj_b 68) (mj_m 68) (mj_r 68)) := by decide +kernel
theorem mj_cd69 : lw_tbl[469]? = some (.code (mj_y 69) (mj_b 69) (mj_m 69) (mj_r 69)) := by decide +kernel
theorem mj_cd70 : lw_tbl[477]? = some (.code (mj_y 70) (mj_b 70) (mj_m 70) (mj_r 70)) := by decide +kernel
theorem mj_cd71 : lw_tbl[496]? = some (.code (mj_y 71) (mj_b 71) (mj_m 71) (mj_r 71)) := by decide +kernel
theorem mj_cd72 : lw_tbl[504]? = some (.code (mj_y 72) (mj_b 72) (mj_m 72) (mj_r 72)) := by decide +kernel
theorem mj_cd73 : lw_tbl[508]? = some (.code (mj_y 73) (mj_b 73) (mj_m 73) (mj_r 73)) := by decide +kernel
theorem mj_cd74 : lw_tbl[516]? = some (.code (mj_y 74) (mj_b 74) (mj_m 74) (mj_r 74)) := by decide +kernel
theorem mj_cd75 : lw_tbl[521]? = some (.code (mj_y 75) (mj_b 75) (mj_m 75) (mj_r 75)) := by decide +kernel
theorem mj_cd76 : lw_tbl[526]? = some (.code (mj_y 76) (mj_b 76) (mj_m 76) (mj_r 76)) := by decide +kernel
theorem mj_cd77 : lw_tbl[530]? = some (.code (mj_y 77) (mj_b 77) (mj_m 77) (mj_r 77)) := by decide +kernel
theorem mj_cd78 : lw_tbl[533]? = some (.code (mj_y 78) (mj_b 78) (mj_m 78) (mj_r 78)) := by decide +kernel
theorem mj_cd79 : lw_tbl[546]? = some (.code (mj_y 79) (mj_b 79) (mj_m 79) (mj_r 79)) := by decide +kernel
theorem mj_cd80 : lw_tbl[563]? = some (.code (mj_y 80) (mj_b 80) (mj_m 80) (mj_r 80)) := by decide +kernel
theorem mj_cd81 : lw_tbl[567]? = some (.code (mj_y 81) (mj_b 81) (mj_m 81) (mj_r 81)) := by decide +kernel
theorem mj_cd82 : lw_tbl[580]? = some (.code (mj_y 82) (mj_b 82) (mj_m 82) (mj_r 82)) := by decide +kernel
theorem mj_cd83 : lw_tbl[583]? = some (.code (mj_y 83) (mj_b 83) (mj_m 83) (mj_r 83)) := by decide +kernel
theorem mj_cd84 : lw_tbl[586]? = some (.code (mj_y 84) (mj_b 84) (mj_m 84) (mj_r 84)) := by decide +kernel
theorem mj_cd85 : lw_tbl[590]? = some (.code (mj_y 85) (mj_b 85) (mj_m 85) (mj_r 85)) := by decide +kernel
theorem mj_cd86 : lw_tbl[594]? = some (.code (mj_y 86) (mj_b 86) (mj_m 86) (mj_r 86)) := by decide +kernel
theorem mj_cd87 : lw_tbl[615]? = some (.code (mj_y 87) (mj_b 87) (mj_m 87) (mj_r 87)) := by decide +kernel
theorem mj_cd88 : lw_tbl[618]? = some (.code (mj_y 88) (mj_b 88) (mj_m 88) (mj_r 88)) := by decide +kernel
theorem mj_cd89 : lw_tbl[622]? = some (.code (mj_y 89) (mj_b 89) (mj_m 89) (mj_r 89)) := by decide +kernel
theorem mj_cd90 : lw_tbl[626]? = some (.code (mj_y 90) (mj_b 90) (mj_m 90) (mj_r 90)) := by decide +kernel
theorem mj_cd91 : lw_tbl[630]? = some (.code (mj_y 91) (mj_b 91) (mj_m 91) (mj_r 91)) := by decide +kernel
theorem mj_cd92 : lw_tbl[638]? = some (.code (mj_y 92) (mj_b 92) (mj_m 92) (mj_r 92)) := by decide +kernel
theorem mj_cd93 : lw_tbl[642]? = some (.code (mj_y 93) (mj_b 93) (mj_m 93) (mj_r 93)) := by decide +kernel
theorem mj_cd94 : lw_tbl[646]? = some (.code (mj_y 94) (mj_b 94) (mj_m 94) (mj_r 94)) := by decide +kernel
theorem mj_cd95 : lw_tbl[650]? = some (.code (mj_y 95) (mj_b 95) (mj_m 95) (mj_r 95)) := by decide +kernel
theorem mj_cd96 : lw_tbl[655]? = some (.code (mj_y 96) (mj_b 96) (mj_m 96) (mj_r 96)) := by decide +kernel
theorem mj_cd97 : lw_tbl[659]? = some (.code (mj_y 97) (mj_b 97) (mj_m 97) (mj_r 97)) := by decide +kernel
theorem mj_cd98 : lw_tbl[666]? = some (.code (mj_y 98) (mj_b 98) (mj_m 98) (mj_r 98)) := by decide +kernel
theorem mj_cd99 : lw_tbl[669]? = some (.code (mj_y 99) (mj_b 99) (mj_m 99) (mj_r 99)) := by decide +kernel
theorem mj_cd100 : lw_tbl[673]? = some (.code (mj_y 100) (mj_b 100) (mj_m 100) (mj_r 100)) := by decide +kernel
theorem mj_cd101 : lw_tbl[678]? = some (.code (mj_y 101) (mj_b 101) (mj_m 101) (mj_r 101)) := by decide +kernel
theorem mj_cd102 : lw_tbl[768]? = some (.code (mj_y 102) (mj_b 102) (mj_m 102) (mj_r 102)) := by decide +kernel
theorem mj_cd103 : lw_tbl[772]? = some (.code (mj_y 103) (mj_b 103) (mj_m 103) (mj_r 103)) := by decide +kernel
theorem mj_cd104 : lw_tbl[776]? = some (.code (mj_y 104) (mj_b 104) (mj_m 104) (mj_r 104)) := by decide +kernel
theorem mj_cd105 : lw_tbl[780]? = some (.code (mj_y 105) (mj_b 105) (mj_m 105) (mj_r 105)) := by decide +kernel
theorem mj_cd106 : lw_tbl[784]? = some (.code (mj_y 106) (mj_b 106) (mj_m 106) (mj_r 106)) := by decide +kernel
theorem mj_cd107 : lw_tbl[788]? = some (.code (mj_y 107) (mj_b 107) (mj_m 107) (mj_r 107)) := by decide +kernel
theorem mj_cd108 : lw_tbl[792]? = some (.code (mj_y 108) (mj_b 108) (mj_m 108) (mj_r 108)) := by decide +kernel
theorem mj_cd109 : lw_tbl[796]? = some (.code (mj_y 109) (mj_b 109) (mj_m 109) (mj_r 109)) := by decide +kernel
theorem mj_cd110 : lw_tbl[800]? = some (.code (mj_y 110) (mj_b 110) (mj_m 110) (mj_r 110)) := by decide +kernel
theorem mj_cd111 : lw_tbl[804]? = some (.code (mj_y 111) (mj_b 111) (mj_m 111) (mj_r 111)) := by decide +kernel
theorem mj_cd112 : lw_tbl[808]? = some (.code (mj_y 112) (mj_b 112) (mj_m 112) (mj_r 112)) := by decide +kernel
theorem mj_cd113 : lw_tbl[811]? = some (.code (mj_y 113) (mj_b 113) (mj_m 113) (mj_r 113)) := by decide +kernel
theorem mj_cd114 : lw_tbl[815]? = some (.code (mj_y 114) (mj_b 114) (mj_m 114) (mj_r 114)) := by decide +kernel
theorem mj_cd115 : lw_tbl[819]? = some (.code (mj_y 115) (mj_b 115) (mj_m 115) (mj_r 115)) := by decide +kernel
theorem mj_cd116 : lw_tbl[823]? = some (.code (mj_y 116) (mj_b 116) (mj_m 116) (mj_r 116)) := by decide +kernel
theorem mj_cd117 : lw_tbl[827]? = some (.code (mj_y 117) (mj_b 117) (mj_m 117) (mj_r 117)) := by decide +kernel
theorem mj_cd118 : lw_tbl[831]? = some (.code (mj_y 118) (mj_b 118) (mj_m 118) (mj_r 118)) := by decide +kernel
theorem mj_cd119 : lw_tbl[835]? = some (.code (mj_y 119) (mj_b 119) (mj_m 119) (mj_r 119)) := by decide +kernel
theorem mj_cd120 : lw_tbl[839]? = some (.code (mj_y 120) (mj_b 120) (mj_m 120) (mj_r 120)) := by decide +kernel
theorem mj_cd121 : lw_tbl[844]? = some (.code (mj_y 121) (mj_b 121) (mj_m 121) (mj_r 121)) := by decide +kernel
theorem mj_cd122 : lw_tbl[848]? = some (.code (mj_y 122) (mj_b 122) (mj_m 122) (mj_r 122)) := by decide +kernel
theorem mj_cd123 : lw_tbl[852]? = some (.code (mj_y 123) (mj_b 123) (mj_m 123) (mj_r 123)) := by decide +kernel
theorem mj_cd124 : lw_tbl[856]? = some (.code (mj_y 124) (mj_b 124) (mj_m 124) (mj_r 124)) := by decide +kernel
theorem mj_cd125 : lw_tbl[860]? = some (.code (mj_y 125) (mj_b 125) (mj_m 125) (mj_r 125)) := by decide +kernel
theorem mj_cd126 : lw_tbl[864]? = some (.code (mj_y 126) (mj_b 126) (mj_m 126) (mj_r 126)) := by decide +kernel
theorem mj_cd127 : lw_tbl[868]? = some (.code (mj_y 127) (mj_b 127) (mj_m 127) (mj_r 127)) := by decide +kernel
theorem mj_cd128 : lw_tbl[872]? = some (.code (mj_y 128) (mj_b 128) (mj_m 128) (mj_r 128)) := by decide +kernel
theorem mj_cd129 : lw_tbl[876]? = some (.code (mj_y 129) (mj_b 129) (mj_m 129) (mj_r 129)) := by decide +kernel
theorem mj_cd130 : lw_tbl[880]? = some (.code (mj_y 130) (mj_b 130) (mj_m 130) (mj_r 130)) := by decide +kernel
theorem mj_cd131 : lw_tbl[884]? = some (.code (mj_y 131) (mj_b 131) (mj_m 131) (mj_r 131)) := by decide +kernel
theorem mj_cd132 : lw_tbl[888]? = some (.code (mj_y 132) (mj_b 132) (mj_m 132) (mj_r 132)) := by decide +kernel
theorem mj_cd133 : lw_tbl[892]? = some (.code (mj_y 133) (mj_b 133) (mj_m 133) (mj_r 133)) := by decide +kernel
theorem mj_cd134 : lw_tbl[896]? = some (.code (mj_y 134) (mj_b 134) (mj_m 134) (mj_r 134)) := by decide +kernel
theorem mj_cd135 : lw_tbl[900]? = some (.code (mj_y 135) (mj_b 135) (mj_m 135) (mj_r 135)) := by decide +kernel
theorem mj_cd136 : lw_tbl[904]? = some (.code (mj_y 136) (mj_b 136) (mj_m 136) (mj_r 136)) := by decide +kernel
theorem mj_cd137 : lw_tbl[909]? = some (.code (mj_y 137) (mj_b 137) (mj_m 137) (mj_r 137)) := by decide +kernel
theorem mj_cd138 : lw_tbl[913]? = some (.code (mj_y 138) (mj_b 138) (mj_m 138) (mj_r 138)) := by decide +kernel
theorem mj_cd139 : lw_tbl[917]? = some (.code (mj_y 139) (mj_b 139) (mj_m 139) (mj_r 139)) := by decide +kernel
theorem mj_cd140 : lw_tbl[921]? = some (.code (mj_y 140) (mj_b 140) (mj_m 140) (mj_r 140)) := by decide +kernel
theorem mj_cd141 : lw_tbl[925]? = some (.code (mj_y 141) (mj_b 141) (mj_m 141) (mj_r 141)) := by decide +kernel
theorem mj_cd142 : lw_tbl[929]? = some (.code (mj_y 142) (mj_b 142) (mj_m 142) (mj_r 142)) := by decide +kernel
theorem mj_cd143 : lw_tbl[933]? = some (.code (mj_y 143) (mj_b 143) (mj_m 143) (mj_r 143)) := by decide +kernel
theorem mj_cd144 : lw_tbl[936]? = some (.code (mj_y 144) (mj_b 144) (mj_m 144) (mj_r 144)) := by decide +kernel
theorem mj_cd145 : lw_tbl[940]? = some (.code (mj_y 145) (mj_b 145) (mj_m 145) (mj_r 145)) := by decide +kernel
theorem mj_cd146 : lw_tbl[944]? = some (.code (mj_y 146) (mj_b 146) (mj_m 146) (mj_r 146)) := by decide +kernel
theorem mj_cd147 : lw_tbl[948]? = some (.code (mj_y 147) (mj_b 147) (mj_m 147) (mj_r 147)) := by decide +kernel
theorem mj_cd148 : lw_tbl[952]? = some (.code (mj_y 148) (mj_b 148) (mj_m 148) (mj_r 148)) := by decide +kernel
theorem mj_cd149 : lw_tbl[956]? = some (.code (mj_y 149) (mj_b 149) (mj_m 149) (mj_r 149)) := by decide +kernel
theorem mj_cd150 : lw_tbl[959]? = some (.code (mj_y 150) (mj_b 150) (mj_m 150) (mj_r 150)) := by decide +kernel
theorem mj_cd151 : lw_tbl[962]? = some (.code (mj_y 151) (mj_b 151) (mj_m 151) (mj_r 151)) := by decide +kernel
theorem mj_cd152 : lw_tbl[966]? = some (.code (mj_y 152) (mj_b 152) (mj_m 152) (mj_r 152)) := by decide +kernel
theorem mj_cd153 : lw_tbl[970]? = some (.code (mj_y 153) (mj_b 153) (mj_m 153) (mj_r 153)) := by decide +kernel
theorem mj_cd154 : lw_tbl[974]? = some (.code (mj_y 154) (mj_b 154) (mj_m 154) (mj_r 154)) := by decide +kernel
theorem mj_cd155 : lw_tbl[978]? = some (.code (mj_y 155) (mj_b 155) (mj_m 155) (mj_r 155)) := by decide +kernel
theorem mj_cd156 : lw_tbl[983]? = some (.code (mj_y 156) (mj_b 156) (mj_m 156) (mj_r 156)) := by decide +kernel
theorem mj_cd157 : lw_tbl[987]? = some (.code (mj_y 157) (mj_b 157) (mj_m 157) (mj_r 157)) := by decide +kernel
theorem mj_cd158 : lw_tbl[991]? = some (.code (mj_y 158) (mj_b 158) (mj_m 158) (mj_r 158)) := by decide +kernel
theorem mj_cd159 : lw_tbl[996]? = some (.code (mj_y 159) (mj_b 159) (mj_m 159) (mj_r 159)) := by decide +kernel
theorem mj_cd160 : lw_tbl[1000]? = some (.code (mj_y 160) (mj_b 160) (mj_m 160) (mj_r 160)) := by decide +kernel
theorem mj_cd161 : lw_tbl[1004]? = some (.code (mj_y 161) (mj_b 161) (mj_m 161) (mj_r 161)) := by decide +kernel
theorem mj_cd162 : lw_tbl[1009]? = some (.code (mj_y 162) (mj_b 162) (mj_m 162) (mj_r 162)) := by decide +kernel
theorem mj_cd163 : lw_tbl[1013]? = some (.code (mj_y 163) (mj_b 163) (mj_m 163) (mj_r 163)) := by decide +kernel
theorem mj_cd164 : lw_tbl[1019]? = some (.code (mj_y 164) (mj_b 164) (mj_m 164) (mj_r 164)) := by decide +kernel
theorem mj_cd165 : lw_tbl[1023]? = some (.code (mj_y 165) (mj_b 165) (mj_m 165) (mj_r 165)) := by decide +kernel
theorem mj_cd166 : lw_tbl[570]? = some (.code (mj_y 166) (mj_b 166) (mj_m 166) (mj_r 166)) := by decide +kernel
theorem mj_math_max : lw_tbl[417]? = some (.code Lib.Math.max.name Lib.Math.max.code 2 (some .int)) := by decide +kernel
theorem mj_mathS_max : mj_has 416 (.static Lib.Math.max.name) = true := by decide +kernel
theorem mj_math_min : lw_tbl[576]? = some (.code Lib.Math.min.name Lib.Math.min.code 2 (some .int)) := by decide +kernel
theorem mj_mathS_min : mj_has 575 (.static Lib.Math.min.name) = true := by decide +kernel
theorem mj_lkX_ok : mj_lkX.all (fun w => mj_has w.2.2.2 (.methodLink (mj_on w.1) w.2.1 (if w.2.2.1 = 998 then Lib.Math.max.name else Lib.Math.min.name))) = true := by decide +kernel
theorem mj_objI : mj_has 63 (.instanceMethod Lib.objectInit) = true := by decide +kernel
theorem mj_objC : mj_has 64 (.code Lib.objectInit ⟨#[0xb1]⟩ 1 none) = true := by decide +kernel
theorem mj_arrI : mj_has 85 (.arrayClass .int) = true := by decide +kernel
theorem mj_arrZ : mj_has 213 (.arrayClass .boolean) = true := by decide +kernel
theorem mj_arrM : lw_tbl[184]? = some (.arrayOver (.object "DumplingBand$March")) := by decide +kernel
theorem mj_lay0 : ∀ j, j < 3 → mj_has ((mj_layp.getD 0 []).getD j 0) (u_lay "DumplingBand$Acts" mj_T0 j) = true := by decide +kernel
theorem mj_nm0 : ∀ a, a < 3 → ∀ b, b < 3 → a ≠ b → (mj_T0 a).2.1 ≠ (mj_T0 b).2.1 := by decide +kernel
theorem mj_fty0 : ∀ j, j < 3 → parseFieldDescriptor (mj_T0 j).2.2.1 = some (mj_ft0 j) := by decide +kernel
theorem mj_lay1 : ∀ j, j < 3 → mj_has ((mj_layp.getD 1 []).getD j 0) (u_lay "DumplingBand$Ferry" mj_T1 j) = true := by decide +kernel
theorem mj_nm1 : ∀ a, a < 3 → ∀ b, b < 3 → a ≠ b → (mj_T1 a).2.1 ≠ (mj_T1 b).2.1 := by decide +kernel
theorem mj_fty1 : ∀ j, j < 3 → parseFieldDescriptor (mj_T1 j).2.2.1 = some (mj_ft1 j) := by decide +kernel
theorem mj_lay2 : ∀ j, j < 7 → mj_has ((mj_layp.getD 2 []).getD j 0) (u_lay "DumplingBand$March" mj_T2 j) = true := by decide +kernel
theorem mj_nm2 : ∀ a, a < 7 → ∀ b, b < 7 → a ≠ b → (mj_T2 a).2.1 ≠ (mj_T2 b).2.1 := by decide +kernel
theorem mj_fty2 : ∀ j, j < 7 → parseFieldDescriptor (mj_T2 j).2.2.1 = some (mj_ft2 j) := by decide +kernel
theorem mj_lay3 : ∀ j, j < 10 → mj_has ((mj_layp.getD 3 []).getD j 0) (u_lay "DumplingBand$Road" mj_T3 j) = true := by decide +kernel
theorem mj_nm3 : ∀ a, a < 10 → ∀ b, b < 10 → a ≠ b → (mj_T3 a).2.1 ≠ (mj_T3 b).2.1 := by decide +kernel
theorem mj_fty3 : ∀ j, j < 10 → parseFieldDescriptor (mj_T3 j).2.2.1 = some (mj_ft3 j) := by decide +kernel
theorem mj_lay4 : ∀ j, j < 1 → mj_has ((mj_layp.getD 4 []).getD j 0) (u_lay "DumplingBand$Rows" mj_T4 j) = true := by decide +kernel
theorem mj_nm4 : ∀ a, a < 1 → ∀ b, b < 1 → a ≠ b → (mj_T4 a).2.1 ≠ (mj_T4 b).2.1 := by decide +kernel
theorem mj_fty4 : ∀ j, j < 1 → parseFieldDescriptor (mj_T4 j).2.2.1 = some (mj_ft4 j) := by decide +kernel
theorem mj_lay5 : ∀ j, j < 4 → mj_has ((mj_layp.getD 5 []).getD j 0) (u_lay "DumplingBand$Scroll" mj_T5 j) = true := by decide +kernel
theorem mj_nm5 : ∀ a, a < 4 → ∀ b, b < 4 → a ≠ b → (mj_T5 a).2.1 ≠ (mj_T5 b).2.1 := by decide +kernel
theorem mj_fty5 : ∀ j, j < 4 → parseFieldDescriptor (mj_T5 j).2.2.1 = some (mj_ft5 j) := by decide +kernel
theorem mj_lay6 : ∀ j, j < 14 → mj_has ((mj_layp.getD 6 []).getD j 0) (u_lay "DumplingBand" mj_T6 j) = true := by decide +kernel
theorem mj_nm6 : ∀ a, a < 14 → ∀ b, b < 14 → a ≠ b → (mj_T6 a).2.1 ≠ (mj_T6 b).2.1 := by decide +kernel
theorem mj_fty6 : ∀ j, j < 14 → parseFieldDescriptor (mj_T6 j).2.2.1 = some (mj_ft6 j) := by decide +kernel
theorem mj_lay7 : ∀ j, j < 28 → mj_has ((mj_layp.getD 7 []).getD j 0) (u_lay "DumplingBandModel" mj_T7 j) = true := by decide +kernel
theorem mj_nm7 : ∀ a, a < 28 → ∀ b, b < 28 → a ≠ b → (mj_T7 a).2.1 ≠ (mj_T7 b).2.1 := by decide +kernel
theorem mj_fty7 : ∀ j, j < 28 → parseFieldDescriptor (mj_T7 j).2.2.1 = some (mj_ft7 j) := by decide +kernel
