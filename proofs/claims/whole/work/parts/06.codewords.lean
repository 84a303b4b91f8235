-- ===== the code words, by their places =====
set_option maxRecDepth 100000 in
theorem ps_cd0 : lw_tbl[182]? = some (.code (ps_y 0) (ps_by 0) (ps_ml 0) (ps_rty 0)) := rfl
set_option maxRecDepth 100000 in
theorem ps_cd1 : lw_tbl[424]? = some (.code (ps_y 1) (ps_by 1) (ps_ml 1) (ps_rty 1)) := rfl
set_option maxRecDepth 100000 in
theorem ps_cd2 : lw_tbl[428]? = some (.code (ps_y 2) (ps_by 2) (ps_ml 2) (ps_rty 2)) := rfl
set_option maxRecDepth 100000 in
theorem ps_cd3 : lw_tbl[432]? = some (.code (ps_y 3) (ps_by 3) (ps_ml 3) (ps_rty 3)) := rfl
set_option maxRecDepth 100000 in
theorem ps_cd4 : lw_tbl[444]? = some (.code (ps_y 4) (ps_by 4) (ps_ml 4) (ps_rty 4)) := rfl
set_option maxRecDepth 100000 in
theorem ps_cd5 : lw_tbl[448]? = some (.code (ps_y 5) (ps_by 5) (ps_ml 5) (ps_rty 5)) := rfl
set_option maxRecDepth 100000 in
theorem ps_cd6 : lw_tbl[456]? = some (.code (ps_y 6) (ps_by 6) (ps_ml 6) (ps_rty 6)) := rfl
set_option maxRecDepth 100000 in
theorem ps_cd7 : lw_tbl[460]? = some (.code (ps_y 7) (ps_by 7) (ps_ml 7) (ps_rty 7)) := rfl
set_option maxRecDepth 100000 in
theorem ps_cd8 : lw_tbl[235]? = some (.code (ps_y 8) (ps_by 8) (ps_ml 8) (ps_rty 8)) := rfl
set_option maxRecDepth 100000 in
theorem ps_cd9 : lw_tbl[867]? = some (.code (ps_y 9) (ps_by 9) (ps_ml 9) (ps_rty 9)) := rfl
set_option maxRecDepth 100000 in
theorem ps_cd10 : lw_tbl[379]? = some (.code (ps_y 10) (ps_by 10) (ps_ml 10) (ps_rty 10)) := rfl
set_option maxRecDepth 100000 in
theorem ps_cd11 : lw_tbl[325]? = some (.code (ps_y 11) (ps_by 11) (ps_ml 11) (ps_rty 11)) := rfl
set_option maxRecDepth 100000 in
theorem ps_cd12 : lw_tbl[659]? = some (.code (ps_y 12) (ps_by 12) (ps_ml 12) (ps_rty 12)) := rfl
set_option maxRecDepth 100000 in
theorem ps_cd13 : lw_tbl[390]? = some (.code (ps_y 13) (ps_by 13) (ps_ml 13) (ps_rty 13)) := rfl
set_option maxRecDepth 100000 in
theorem ps_cd14 : lw_tbl[627]? = some (.code (ps_y 14) (ps_by 14) (ps_ml 14) (ps_rty 14)) := rfl
set_option maxRecDepth 100000 in
theorem ps_cd15 : lw_tbl[201]? = some (.code (ps_y 15) (ps_by 15) (ps_ml 15) (ps_rty 15)) := rfl
set_option maxRecDepth 100000 in
theorem ps_cd16 : lw_tbl[641]? = some (.code (ps_y 16) (ps_by 16) (ps_ml 16) (ps_rty 16)) := rfl
set_option maxRecDepth 100000 in
theorem ps_cd17 : lw_tbl[648]? = some (.code (ps_y 17) (ps_by 17) (ps_ml 17) (ps_rty 17)) := rfl
set_option maxRecDepth 100000 in
theorem ps_cd18 : lw_tbl[652]? = some (.code (ps_y 18) (ps_by 18) (ps_ml 18) (ps_rty 18)) := rfl
set_option maxRecDepth 100000 in
theorem ps_cd19 : lw_tbl[102]? = some (.code (ps_y 19) (ps_by 19) (ps_ml 19) (ps_rty 19)) := rfl
set_option maxRecDepth 100000 in
theorem ps_cd20 : lw_tbl[452]? = some (.code (ps_y 20) (ps_by 20) (ps_ml 20) (ps_rty 20)) := rfl
set_option maxRecDepth 100000 in
theorem ps_cd21 : lw_tbl[466]? = some (.code (ps_y 21) (ps_by 21) (ps_ml 21) (ps_rty 21)) := rfl
set_option maxRecDepth 100000 in
theorem ps_cd22 : lw_tbl[474]? = some (.code (ps_y 22) (ps_by 22) (ps_ml 22) (ps_rty 22)) := rfl
set_option maxRecDepth 100000 in
theorem ps_cd23 : lw_tbl[483]? = some (.code (ps_y 23) (ps_by 23) (ps_ml 23) (ps_rty 23)) := rfl
set_option maxRecDepth 100000 in
theorem ps_cd24 : lw_tbl[542]? = some (.code (ps_y 24) (ps_by 24) (ps_ml 24) (ps_rty 24)) := rfl
set_option maxRecDepth 100000 in
theorem ps_cd25 : lw_tbl[563]? = some (.code (ps_y 25) (ps_by 25) (ps_ml 25) (ps_rty 25)) := rfl
set_option maxRecDepth 100000 in
theorem ps_cd26 : lw_tbl[558]? = some (.code (ps_y 26) (ps_by 26) (ps_ml 26) (ps_rty 26)) := rfl
set_option maxRecDepth 100000 in
theorem ps_cd27 : lw_tbl[567]? = some (.code (ps_y 27) (ps_by 27) (ps_ml 27) (ps_rty 27)) := rfl
set_option maxRecDepth 100000 in
theorem ps_cd28 : lw_tbl[554]? = some (.code (ps_y 28) (ps_by 28) (ps_ml 28) (ps_rty 28)) := rfl
set_option maxRecDepth 100000 in
theorem ps_cd29 : lw_tbl[550]? = some (.code (ps_y 29) (ps_by 29) (ps_ml 29) (ps_rty 29)) := rfl
set_option maxRecDepth 100000 in
theorem ps_cd30 : lw_tbl[491]? = some (.code (ps_y 30) (ps_by 30) (ps_ml 30) (ps_rty 30)) := rfl
set_option maxRecDepth 100000 in
theorem ps_cd31 : lw_tbl[537]? = some (.code (ps_y 31) (ps_by 31) (ps_ml 31) (ps_rty 31)) := rfl
set_option maxRecDepth 100000 in
theorem ps_cd32 : lw_tbl[585]? = some (.code (ps_y 32) (ps_by 32) (ps_ml 32) (ps_rty 32)) := rfl
set_option maxRecDepth 100000 in
theorem ps_cd33 : lw_tbl[591]? = some (.code (ps_y 33) (ps_by 33) (ps_ml 33) (ps_rty 33)) := rfl
set_option maxRecDepth 100000 in
theorem ps_cd34 : lw_tbl[688]? = some (.code (ps_y 34) (ps_by 34) (ps_ml 34) (ps_rty 34)) := rfl
set_option maxRecDepth 100000 in
theorem ps_cd35 : lw_tbl[772]? = some (.code (ps_y 35) (ps_by 35) (ps_ml 35) (ps_rty 35)) := rfl
set_option maxRecDepth 100000 in
theorem ps_cd36 : lw_tbl[708]? = some (.code (ps_y 36) (ps_by 36) (ps_ml 36) (ps_rty 36)) := rfl
set_option maxRecDepth 100000 in
theorem ps_cd37 : lw_tbl[684]? = some (.code (ps_y 37) (ps_by 37) (ps_ml 37) (ps_rty 37)) := rfl
set_option maxRecDepth 100000 in
theorem ps_cd38 : lw_tbl[632]? = some (.code (ps_y 38) (ps_by 38) (ps_ml 38) (ps_rty 38)) := rfl
set_option maxRecDepth 100000 in
theorem ps_cd39 : lw_tbl[749]? = some (.code (ps_y 39) (ps_by 39) (ps_ml 39) (ps_rty 39)) := rfl
set_option maxRecDepth 100000 in
theorem ps_cd40 : lw_tbl[524]? = some (.code (ps_y 40) (ps_by 40) (ps_ml 40) (ps_rty 40)) := rfl
set_option maxRecDepth 100000 in
theorem ps_cd41 : lw_tbl[820]? = some (.code (ps_y 41) (ps_by 41) (ps_ml 41) (ps_rty 41)) := rfl
set_option maxRecDepth 100000 in
theorem ps_cd42 : lw_tbl[824]? = some (.code (ps_y 42) (ps_by 42) (ps_ml 42) (ps_rty 42)) := rfl
set_option maxRecDepth 100000 in
theorem ps_cd43 : lw_tbl[515]? = some (.code (ps_y 43) (ps_by 43) (ps_ml 43) (ps_rty 43)) := rfl
set_option maxRecDepth 100000 in
theorem ps_cd44 : lw_tbl[238]? = some (.code (ps_y 44) (ps_by 44) (ps_ml 44) (ps_rty 44)) := rfl
set_option maxRecDepth 100000 in
theorem ps_cd45 : lw_tbl[353]? = some (.code (ps_y 45) (ps_by 45) (ps_ml 45) (ps_rty 45)) := rfl
set_option maxRecDepth 100000 in
theorem ps_cd46 : lw_tbl[359]? = some (.code (ps_y 46) (ps_by 46) (ps_ml 46) (ps_rty 46)) := rfl
set_option maxRecDepth 100000 in
theorem ps_cd47 : lw_tbl[347]? = some (.code (ps_y 47) (ps_by 47) (ps_ml 47) (ps_rty 47)) := rfl
set_option maxRecDepth 100000 in
theorem ps_cd48 : lw_tbl[860]? = some (.code (ps_y 48) (ps_by 48) (ps_ml 48) (ps_rty 48)) := rfl
set_option maxRecDepth 100000 in
theorem ps_cd49 : lw_tbl[259]? = some (.code (ps_y 49) (ps_by 49) (ps_ml 49) (ps_rty 49)) := rfl
set_option maxRecDepth 100000 in
theorem ps_cd50 : lw_tbl[436]? = some (.code (ps_y 50) (ps_by 50) (ps_ml 50) (ps_rty 50)) := rfl
set_option maxRecDepth 100000 in
theorem ps_cd51 : lw_tbl[401]? = some (.code (ps_y 51) (ps_by 51) (ps_ml 51) (ps_rty 51)) := rfl
set_option maxRecDepth 100000 in
theorem ps_cd52 : lw_tbl[96]? = some (.code (ps_y 52) (ps_by 52) (ps_ml 52) (ps_rty 52)) := rfl
set_option maxRecDepth 100000 in
theorem ps_cd53 : lw_tbl[614]? = some (.code (ps_y 53) (ps_by 53) (ps_ml 53) (ps_rty 53)) := rfl
set_option maxRecDepth 100000 in
theorem ps_cd54 : lw_tbl[580]? = some (.code (ps_y 54) (ps_by 54) (ps_ml 54) (ps_rty 54)) := rfl
set_option maxRecDepth 100000 in
theorem ps_cd55 : lw_tbl[602]? = some (.code (ps_y 55) (ps_by 55) (ps_ml 55) (ps_rty 55)) := rfl
set_option maxRecDepth 100000 in
theorem ps_cd56 : lw_tbl[84]? = some (.code (ps_y 56) (ps_by 56) (ps_ml 56) (ps_rty 56)) := rfl
set_option maxRecDepth 100000 in
theorem ps_cd57 : lw_tbl[314]? = some (.code (ps_y 57) (ps_by 57) (ps_ml 57) (ps_rty 57)) := rfl
set_option maxRecDepth 100000 in
theorem ps_cd58 : lw_tbl[341]? = some (.code (ps_y 58) (ps_by 58) (ps_ml 58) (ps_rty 58)) := rfl
set_option maxRecDepth 100000 in
theorem ps_cd59 : lw_tbl[363]? = some (.code (ps_y 59) (ps_by 59) (ps_ml 59) (ps_rty 59)) := rfl
set_option maxRecDepth 100000 in
theorem ps_cd60 : lw_tbl[367]? = some (.code (ps_y 60) (ps_by 60) (ps_ml 60) (ps_rty 60)) := rfl
set_option maxRecDepth 100000 in
theorem ps_cd61 : lw_tbl[375]? = some (.code (ps_y 61) (ps_by 61) (ps_ml 61) (ps_rty 61)) := rfl
set_option maxRecDepth 100000 in
theorem ps_cd62 : lw_tbl[386]? = some (.code (ps_y 62) (ps_by 62) (ps_ml 62) (ps_rty 62)) := rfl
set_option maxRecDepth 100000 in
theorem ps_cd63 : lw_tbl[394]? = some (.code (ps_y 63) (ps_by 63) (ps_ml 63) (ps_rty 63)) := rfl
set_option maxRecDepth 100000 in
theorem ps_cd64 : lw_tbl[410]? = some (.code (ps_y 64) (ps_by 64) (ps_ml 64) (ps_rty 64)) := rfl
set_option maxRecDepth 100000 in
theorem ps_cd65 : lw_tbl[417]? = some (.code (ps_y 65) (ps_by 65) (ps_ml 65) (ps_rty 65)) := rfl
set_option maxRecDepth 100000 in
theorem ps_cd66 : lw_tbl[470]? = some (.code (ps_y 66) (ps_by 66) (ps_ml 66) (ps_rty 66)) := rfl
set_option maxRecDepth 100000 in
theorem ps_cd67 : lw_tbl[479]? = some (.code (ps_y 67) (ps_by 67) (ps_ml 67) (ps_rty 67)) := rfl
set_option maxRecDepth 100000 in
theorem ps_cd68 : lw_tbl[508]? = some (.code (ps_y 68) (ps_by 68) (ps_ml 68) (ps_rty 68)) := rfl
set_option maxRecDepth 100000 in
theorem ps_cd69 : lw_tbl[520]? = some (.code (ps_y 69) (ps_by 69) (ps_ml 69) (ps_rty 69)) := rfl
set_option maxRecDepth 100000 in
theorem ps_cd70 : lw_tbl[529]? = some (.code (ps_y 70) (ps_by 70) (ps_ml 70) (ps_rty 70)) := rfl
set_option maxRecDepth 100000 in
theorem ps_cd71 : lw_tbl[546]? = some (.code (ps_y 71) (ps_by 71) (ps_ml 71) (ps_rty 71)) := rfl
set_option maxRecDepth 100000 in
theorem ps_cd72 : lw_tbl[572]? = some (.code (ps_y 72) (ps_by 72) (ps_ml 72) (ps_rty 72)) := rfl
set_option maxRecDepth 100000 in
theorem ps_cd73 : lw_tbl[598]? = some (.code (ps_y 73) (ps_by 73) (ps_ml 73) (ps_rty 73)) := rfl
set_option maxRecDepth 100000 in
theorem ps_cd74 : lw_tbl[607]? = some (.code (ps_y 74) (ps_by 74) (ps_ml 74) (ps_rty 74)) := rfl
set_option maxRecDepth 100000 in
theorem ps_cd75 : lw_tbl[619]? = some (.code (ps_y 75) (ps_by 75) (ps_ml 75) (ps_rty 75)) := rfl
set_option maxRecDepth 100000 in
theorem ps_cd76 : lw_tbl[623]? = some (.code (ps_y 76) (ps_by 76) (ps_ml 76) (ps_rty 76)) := rfl
set_option maxRecDepth 100000 in
theorem ps_cd77 : lw_tbl[637]? = some (.code (ps_y 77) (ps_by 77) (ps_ml 77) (ps_rty 77)) := rfl
set_option maxRecDepth 100000 in
theorem ps_cd78 : lw_tbl[665]? = some (.code (ps_y 78) (ps_by 78) (ps_ml 78) (ps_rty 78)) := rfl
set_option maxRecDepth 100000 in
theorem ps_cd79 : lw_tbl[676]? = some (.code (ps_y 79) (ps_by 79) (ps_ml 79) (ps_rty 79)) := rfl
set_option maxRecDepth 100000 in
theorem ps_cd80 : lw_tbl[680]? = some (.code (ps_y 80) (ps_by 80) (ps_ml 80) (ps_rty 80)) := rfl
set_option maxRecDepth 100000 in
theorem ps_cd81 : lw_tbl[692]? = some (.code (ps_y 81) (ps_by 81) (ps_ml 81) (ps_rty 81)) := rfl
set_option maxRecDepth 100000 in
theorem ps_cd82 : lw_tbl[704]? = some (.code (ps_y 82) (ps_by 82) (ps_ml 82) (ps_rty 82)) := rfl
set_option maxRecDepth 100000 in
theorem ps_cd83 : lw_tbl[712]? = some (.code (ps_y 83) (ps_by 83) (ps_ml 83) (ps_rty 83)) := rfl
set_option maxRecDepth 100000 in
theorem ps_cd84 : lw_tbl[720]? = some (.code (ps_y 84) (ps_by 84) (ps_ml 84) (ps_rty 84)) := rfl
set_option maxRecDepth 100000 in
theorem ps_cd85 : lw_tbl[724]? = some (.code (ps_y 85) (ps_by 85) (ps_ml 85) (ps_rty 85)) := rfl
set_option maxRecDepth 100000 in
theorem ps_cd86 : lw_tbl[728]? = some (.code (ps_y 86) (ps_by 86) (ps_ml 86) (ps_rty 86)) := rfl
set_option maxRecDepth 100000 in
theorem ps_cd87 : lw_tbl[734]? = some (.code (ps_y 87) (ps_by 87) (ps_ml 87) (ps_rty 87)) := rfl
set_option maxRecDepth 100000 in
theorem ps_cd88 : lw_tbl[753]? = some (.code (ps_y 88) (ps_by 88) (ps_ml 88) (ps_rty 88)) := rfl
set_option maxRecDepth 100000 in
theorem ps_cd89 : lw_tbl[757]? = some (.code (ps_y 89) (ps_by 89) (ps_ml 89) (ps_rty 89)) := rfl
set_option maxRecDepth 100000 in
theorem ps_cd90 : lw_tbl[761]? = some (.code (ps_y 90) (ps_by 90) (ps_ml 90) (ps_rty 90)) := rfl
set_option maxRecDepth 100000 in
theorem ps_cd91 : lw_tbl[780]? = some (.code (ps_y 91) (ps_by 91) (ps_ml 91) (ps_rty 91)) := rfl
set_option maxRecDepth 100000 in
theorem ps_cd92 : lw_tbl[784]? = some (.code (ps_y 92) (ps_by 92) (ps_ml 92) (ps_rty 92)) := rfl
set_option maxRecDepth 100000 in
theorem ps_cd93 : lw_tbl[800]? = some (.code (ps_y 93) (ps_by 93) (ps_ml 93) (ps_rty 93)) := rfl
set_option maxRecDepth 100000 in
theorem ps_cd94 : lw_tbl[804]? = some (.code (ps_y 94) (ps_by 94) (ps_ml 94) (ps_rty 94)) := rfl
set_option maxRecDepth 100000 in
theorem ps_cd95 : lw_tbl[808]? = some (.code (ps_y 95) (ps_by 95) (ps_ml 95) (ps_rty 95)) := rfl
set_option maxRecDepth 100000 in
theorem ps_cd96 : lw_tbl[812]? = some (.code (ps_y 96) (ps_by 96) (ps_ml 96) (ps_rty 96)) := rfl
set_option maxRecDepth 100000 in
theorem ps_cd97 : lw_tbl[840]? = some (.code (ps_y 97) (ps_by 97) (ps_ml 97) (ps_rty 97)) := rfl
set_option maxRecDepth 100000 in
theorem ps_cd98 : lw_tbl[844]? = some (.code (ps_y 98) (ps_by 98) (ps_ml 98) (ps_rty 98)) := rfl
set_option maxRecDepth 100000 in
theorem ps_cd99 : lw_tbl[848]? = some (.code (ps_y 99) (ps_by 99) (ps_ml 99) (ps_rty 99)) := rfl
set_option maxRecDepth 100000 in
theorem ps_cd100 : lw_tbl[317]? = some (.code (ps_y 100) (ps_by 100) (ps_ml 100) (ps_rty 100)) := rfl
set_option maxRecDepth 100000 in
theorem ps_cd101 : lw_tbl[397]? = some (.code (ps_y 101) (ps_by 101) (ps_ml 101) (ps_rty 101)) := rfl
set_option maxRecDepth 100000 in
theorem ps_cd102 : lw_tbl[610]? = some (.code (ps_y 102) (ps_by 102) (ps_ml 102) (ps_rty 102)) := rfl
set_option maxRecDepth 100000 in
theorem ps_cd103 : lw_tbl[575]? = some (.code (ps_y 103) (ps_by 103) (ps_ml 103) (ps_rty 103)) := rfl
set_option maxRecDepth 100000 in
theorem ps_cd104 : lw_tbl[764]? = some (.code (ps_y 104) (ps_by 104) (ps_ml 104) (ps_rty 104)) := rfl
set_option maxRecDepth 100000 in
theorem ps_cd105 : lw_tbl[511]? = some (.code (ps_y 105) (ps_by 105) (ps_ml 105) (ps_rty 105)) := rfl
set_option maxRecDepth 100000 in
theorem ps_cd106 : lw_tbl[496]? = some (.code (ps_y 106) (ps_by 106) (ps_ml 106) (ps_rty 106)) := rfl
set_option maxRecDepth 100000 in
theorem ps_cd107 : lw_tbl[321]? = some (.code (ps_y 107) (ps_by 107) (ps_ml 107) (ps_rty 107)) := rfl
set_option maxRecDepth 100000 in
theorem ps_cd108 : lw_tbl[487]? = some (.code (ps_y 108) (ps_by 108) (ps_ml 108) (ps_rty 108)) := rfl
set_option maxRecDepth 100000 in
theorem ps_cd109 : lw_tbl[533]? = some (.code (ps_y 109) (ps_by 109) (ps_ml 109) (ps_rty 109)) := rfl
set_option maxRecDepth 100000 in
theorem ps_cd110 : lw_tbl[816]? = some (.code (ps_y 110) (ps_by 110) (ps_ml 110) (ps_rty 110)) := rfl
set_option maxRecDepth 100000 in
theorem ps_cd111 : lw_tbl[828]? = some (.code (ps_y 111) (ps_by 111) (ps_ml 111) (ps_rty 111)) := rfl
set_option maxRecDepth 100000 in
theorem ps_cd112 : lw_tbl[832]? = some (.code (ps_y 112) (ps_by 112) (ps_ml 112) (ps_rty 112)) := rfl
set_option maxRecDepth 100000 in
theorem ps_cd113 : lw_tbl[836]? = some (.code (ps_y 113) (ps_by 113) (ps_ml 113) (ps_rty 113)) := rfl
set_option maxRecDepth 100000 in
theorem ps_cd114 : lw_tbl[854]? = some (.code (ps_y 114) (ps_by 114) (ps_ml 114) (ps_rty 114)) := rfl
set_option maxRecDepth 100000 in
theorem ps_cd115 : lw_tbl[501]? = some (.code (ps_y 115) (ps_by 115) (ps_ml 115) (ps_rty 115)) := rfl
set_option maxRecDepth 100000 in
theorem ps_cd116 : lw_tbl[716]? = some (.code (ps_y 116) (ps_by 116) (ps_ml 116) (ps_rty 116)) := rfl
set_option maxRecDepth 100000 in
theorem ps_cd117 : lw_tbl[695]? = some (.code (ps_y 117) (ps_by 117) (ps_ml 117) (ps_rty 117)) := rfl
set_option maxRecDepth 100000 in
theorem ps_cd118 : lw_tbl[775]? = some (.code (ps_y 118) (ps_by 118) (ps_ml 118) (ps_rty 118)) := rfl
set_option maxRecDepth 100000 in
theorem ps_cd119 : lw_tbl[699]? = some (.code (ps_y 119) (ps_by 119) (ps_ml 119) (ps_rty 119)) := rfl
set_option maxRecDepth 100000 in
theorem ps_cd120 : lw_tbl[738]? = some (.code (ps_y 120) (ps_by 120) (ps_ml 120) (ps_rty 120)) := rfl
set_option maxRecDepth 100000 in
theorem ps_cd121 : lw_tbl[745]? = some (.code (ps_y 121) (ps_by 121) (ps_ml 121) (ps_rty 121)) := rfl
set_option maxRecDepth 100000 in
theorem ps_cd122 : lw_tbl[768]? = some (.code (ps_y 122) (ps_by 122) (ps_ml 122) (ps_rty 122)) := rfl
set_option maxRecDepth 100000 in
theorem ps_cd123 : lw_tbl[669]? = some (.code (ps_y 123) (ps_by 123) (ps_ml 123) (ps_rty 123)) := rfl
set_option maxRecDepth 100000 in
theorem ps_cd124 : lw_tbl[672]? = some (.code (ps_y 124) (ps_by 124) (ps_ml 124) (ps_rty 124)) := rfl
set_option maxRecDepth 100000 in
theorem ps_cd125 : lw_tbl[790]? = some (.code (ps_y 125) (ps_by 125) (ps_ml 125) (ps_rty 125)) := rfl
set_option maxRecDepth 100000 in
theorem ps_cd126 : lw_tbl[879]? = some (.code (ps_y 126) (ps_by 126) (ps_ml 126) (ps_rty 126)) := rfl
set_option maxRecDepth 100000 in
theorem ps_cd127 : lw_tbl[961]? = some (.code (ps_y 127) (ps_by 127) (ps_ml 127) (ps_rty 127)) := rfl
set_option maxRecDepth 100000 in
theorem ps_cd128 : lw_tbl[1144]? = some (.code (ps_y 128) (ps_by 128) (ps_ml 128) (ps_rty 128)) := rfl
set_option maxRecDepth 100000 in
theorem ps_cd129 : lw_tbl[965]? = some (.code (ps_y 129) (ps_by 129) (ps_ml 129) (ps_rty 129)) := rfl
set_option maxRecDepth 100000 in
theorem ps_cd130 : lw_tbl[981]? = some (.code (ps_y 130) (ps_by 130) (ps_ml 130) (ps_rty 130)) := rfl
set_option maxRecDepth 100000 in
theorem ps_cd131 : lw_tbl[957]? = some (.code (ps_y 131) (ps_by 131) (ps_ml 131) (ps_rty 131)) := rfl
set_option maxRecDepth 100000 in
theorem ps_cd132 : lw_tbl[1008]? = some (.code (ps_y 132) (ps_by 132) (ps_ml 132) (ps_rty 132)) := rfl
set_option maxRecDepth 100000 in
theorem ps_cd133 : lw_tbl[954]? = some (.code (ps_y 133) (ps_by 133) (ps_ml 133) (ps_rty 133)) := rfl
set_option maxRecDepth 100000 in
theorem ps_cd134 : lw_tbl[969]? = some (.code (ps_y 134) (ps_by 134) (ps_ml 134) (ps_rty 134)) := rfl
set_option maxRecDepth 100000 in
theorem ps_cd135 : lw_tbl[977]? = some (.code (ps_y 135) (ps_by 135) (ps_ml 135) (ps_rty 135)) := rfl
set_option maxRecDepth 100000 in
theorem ps_cd136 : lw_tbl[973]? = some (.code (ps_y 136) (ps_by 136) (ps_ml 136) (ps_rty 136)) := rfl
set_option maxRecDepth 100000 in
theorem ps_cd137 : lw_tbl[985]? = some (.code (ps_y 137) (ps_by 137) (ps_ml 137) (ps_rty 137)) := rfl
set_option maxRecDepth 100000 in
theorem ps_cd138 : lw_tbl[989]? = some (.code (ps_y 138) (ps_by 138) (ps_ml 138) (ps_rty 138)) := rfl
set_option maxRecDepth 100000 in
theorem ps_cd139 : lw_tbl[997]? = some (.code (ps_y 139) (ps_by 139) (ps_ml 139) (ps_rty 139)) := rfl
set_option maxRecDepth 100000 in
theorem ps_cd140 : lw_tbl[993]? = some (.code (ps_y 140) (ps_by 140) (ps_ml 140) (ps_rty 140)) := rfl
set_option maxRecDepth 100000 in
theorem ps_cd141 : lw_tbl[1001]? = some (.code (ps_y 141) (ps_by 141) (ps_ml 141) (ps_rty 141)) := rfl
set_option maxRecDepth 100000 in
theorem ps_cd142 : lw_tbl[1005]? = some (.code (ps_y 142) (ps_by 142) (ps_ml 142) (ps_rty 142)) := rfl
set_option maxRecDepth 100000 in
theorem ps_cd143 : lw_tbl[1013]? = some (.code (ps_y 143) (ps_by 143) (ps_ml 143) (ps_rty 143)) := rfl
set_option maxRecDepth 100000 in
theorem ps_cd144 : lw_tbl[1033]? = some (.code (ps_y 144) (ps_by 144) (ps_ml 144) (ps_rty 144)) := rfl
set_option maxRecDepth 100000 in
theorem ps_cd145 : lw_tbl[1029]? = some (.code (ps_y 145) (ps_by 145) (ps_ml 145) (ps_rty 145)) := rfl
set_option maxRecDepth 100000 in
theorem ps_cd146 : lw_tbl[1037]? = some (.code (ps_y 146) (ps_by 146) (ps_ml 146) (ps_rty 146)) := rfl
set_option maxRecDepth 100000 in
theorem ps_cd147 : lw_tbl[1044]? = some (.code (ps_y 147) (ps_by 147) (ps_ml 147) (ps_rty 147)) := rfl
set_option maxRecDepth 100000 in
theorem ps_cd148 : lw_tbl[1025]? = some (.code (ps_y 148) (ps_by 148) (ps_ml 148) (ps_rty 148)) := rfl
set_option maxRecDepth 100000 in
theorem ps_cd149 : lw_tbl[1041]? = some (.code (ps_y 149) (ps_by 149) (ps_ml 149) (ps_rty 149)) := rfl
set_option maxRecDepth 100000 in
theorem ps_cd150 : lw_tbl[1021]? = some (.code (ps_y 150) (ps_by 150) (ps_ml 150) (ps_rty 150)) := rfl
set_option maxRecDepth 100000 in
theorem ps_cd151 : lw_tbl[1017]? = some (.code (ps_y 151) (ps_by 151) (ps_ml 151) (ps_rty 151)) := rfl
set_option maxRecDepth 100000 in
theorem ps_cd152 : lw_tbl[1048]? = some (.code (ps_y 152) (ps_by 152) (ps_ml 152) (ps_rty 152)) := rfl
set_option maxRecDepth 100000 in
theorem ps_cd153 : lw_tbl[1056]? = some (.code (ps_y 153) (ps_by 153) (ps_ml 153) (ps_rty 153)) := rfl
set_option maxRecDepth 100000 in
theorem ps_cd154 : lw_tbl[1071]? = some (.code (ps_y 154) (ps_by 154) (ps_ml 154) (ps_rty 154)) := rfl
set_option maxRecDepth 100000 in
theorem ps_cd155 : lw_tbl[1077]? = some (.code (ps_y 155) (ps_by 155) (ps_ml 155) (ps_rty 155)) := rfl
set_option maxRecDepth 100000 in
theorem ps_cd156 : lw_tbl[1074]? = some (.code (ps_y 156) (ps_by 156) (ps_ml 156) (ps_rty 156)) := rfl
set_option maxRecDepth 100000 in
theorem ps_cd157 : lw_tbl[1068]? = some (.code (ps_y 157) (ps_by 157) (ps_ml 157) (ps_rty 157)) := rfl
set_option maxRecDepth 100000 in
theorem ps_cd158 : lw_tbl[1080]? = some (.code (ps_y 158) (ps_by 158) (ps_ml 158) (ps_rty 158)) := rfl
set_option maxRecDepth 100000 in
theorem ps_cd159 : lw_tbl[1065]? = some (.code (ps_y 159) (ps_by 159) (ps_ml 159) (ps_rty 159)) := rfl
set_option maxRecDepth 100000 in
theorem ps_cd160 : lw_tbl[1061]? = some (.code (ps_y 160) (ps_by 160) (ps_ml 160) (ps_rty 160)) := rfl
set_option maxRecDepth 100000 in
theorem ps_cd161 : lw_tbl[1052]? = some (.code (ps_y 161) (ps_by 161) (ps_ml 161) (ps_rty 161)) := rfl
set_option maxRecDepth 100000 in
theorem ps_cd162 : lw_tbl[1088]? = some (.code (ps_y 162) (ps_by 162) (ps_ml 162) (ps_rty 162)) := rfl
set_option maxRecDepth 100000 in
theorem ps_cd163 : lw_tbl[1092]? = some (.code (ps_y 163) (ps_by 163) (ps_ml 163) (ps_rty 163)) := rfl
set_option maxRecDepth 100000 in
theorem ps_cd164 : lw_tbl[1084]? = some (.code (ps_y 164) (ps_by 164) (ps_ml 164) (ps_rty 164)) := rfl
set_option maxRecDepth 100000 in
theorem ps_cd165 : lw_tbl[1096]? = some (.code (ps_y 165) (ps_by 165) (ps_ml 165) (ps_rty 165)) := rfl
set_option maxRecDepth 100000 in
theorem ps_cd166 : lw_tbl[1101]? = some (.code (ps_y 166) (ps_by 166) (ps_ml 166) (ps_rty 166)) := rfl
set_option maxRecDepth 100000 in
theorem ps_cd167 : lw_tbl[1114]? = some (.code (ps_y 167) (ps_by 167) (ps_ml 167) (ps_rty 167)) := rfl
set_option maxRecDepth 100000 in
theorem ps_cd168 : lw_tbl[1118]? = some (.code (ps_y 168) (ps_by 168) (ps_ml 168) (ps_rty 168)) := rfl
set_option maxRecDepth 100000 in
theorem ps_cd169 : lw_tbl[1130]? = some (.code (ps_y 169) (ps_by 169) (ps_ml 169) (ps_rty 169)) := rfl
set_option maxRecDepth 100000 in
theorem ps_cd170 : lw_tbl[1134]? = some (.code (ps_y 170) (ps_by 170) (ps_ml 170) (ps_rty 170)) := rfl
set_option maxRecDepth 100000 in
theorem ps_cd171 : lw_tbl[1152]? = some (.code (ps_y 171) (ps_by 171) (ps_ml 171) (ps_rty 171)) := rfl
set_option maxRecDepth 100000 in
theorem ps_cd172 : lw_tbl[1141]? = some (.code (ps_y 172) (ps_by 172) (ps_ml 172) (ps_rty 172)) := rfl
set_option maxRecDepth 100000 in
theorem ps_cd173 : lw_tbl[1110]? = some (.code (ps_y 173) (ps_by 173) (ps_ml 173) (ps_rty 173)) := rfl
set_option maxRecDepth 100000 in
theorem ps_cd174 : lw_tbl[1105]? = some (.code (ps_y 174) (ps_by 174) (ps_ml 174) (ps_rty 174)) := rfl
set_option maxRecDepth 100000 in
theorem ps_cd175 : lw_tbl[1126]? = some (.code (ps_y 175) (ps_by 175) (ps_ml 175) (ps_rty 175)) := rfl
set_option maxRecDepth 100000 in
theorem ps_cd176 : lw_tbl[1122]? = some (.code (ps_y 176) (ps_by 176) (ps_ml 176) (ps_rty 176)) := rfl
set_option maxRecDepth 100000 in
theorem ps_cd177 : lw_tbl[1148]? = some (.code (ps_y 177) (ps_by 177) (ps_ml 177) (ps_rty 177)) := rfl
set_option maxRecDepth 100000 in
theorem ps_cd178 : lw_tbl[1138]? = some (.code (ps_y 178) (ps_by 178) (ps_ml 178) (ps_rty 178)) := rfl
set_option maxRecDepth 100000 in
theorem ps_cd179 : lw_tbl[1156]? = some (.code (ps_y 179) (ps_by 179) (ps_ml 179) (ps_rty 179)) := rfl
set_option maxRecDepth 100000 in
theorem ps_cd180 : lw_tbl[1165]? = some (.code (ps_y 180) (ps_by 180) (ps_ml 180) (ps_rty 180)) := rfl
set_option maxRecDepth 100000 in
theorem ps_cd181 : lw_tbl[1160]? = some (.code (ps_y 181) (ps_by 181) (ps_ml 181) (ps_rty 181)) := rfl
set_option maxRecDepth 100000 in
theorem ps_cd182 : lw_tbl[1169]? = some (.code (ps_y 182) (ps_by 182) (ps_ml 182) (ps_rty 182)) := rfl
set_option maxRecDepth 100000 in
theorem ps_cd183 : lw_tbl[1181]? = some (.code (ps_y 183) (ps_by 183) (ps_ml 183) (ps_rty 183)) := rfl
set_option maxRecDepth 100000 in
theorem ps_cd184 : lw_tbl[1177]? = some (.code (ps_y 184) (ps_by 184) (ps_ml 184) (ps_rty 184)) := rfl
set_option maxRecDepth 100000 in
theorem ps_cd185 : lw_tbl[1173]? = some (.code (ps_y 185) (ps_by 185) (ps_ml 185) (ps_rty 185)) := rfl
set_option maxRecDepth 100000 in
theorem ps_cd186 : lw_tbl[1188]? = some (.code (ps_y 186) (ps_by 186) (ps_ml 186) (ps_rty 186)) := rfl
set_option maxRecDepth 100000 in
theorem ps_cd187 : lw_tbl[1195]? = some (.code (ps_y 187) (ps_by 187) (ps_ml 187) (ps_rty 187)) := rfl
set_option maxRecDepth 100000 in
theorem ps_cd188 : lw_tbl[1192]? = some (.code (ps_y 188) (ps_by 188) (ps_ml 188) (ps_rty 188)) := rfl
set_option maxRecDepth 100000 in
theorem ps_cd189 : lw_tbl[1199]? = some (.code (ps_y 189) (ps_by 189) (ps_ml 189) (ps_rty 189)) := rfl
set_option maxRecDepth 100000 in
theorem ps_cd190 : lw_tbl[1185]? = some (.code (ps_y 190) (ps_by 190) (ps_ml 190) (ps_rty 190)) := rfl
set_option maxRecDepth 100000 in
theorem ps_cd191 : lw_tbl[1203]? = some (.code (ps_y 191) (ps_by 191) (ps_ml 191) (ps_rty 191)) := rfl
set_option maxRecDepth 100000 in
theorem ps_cd192 : lw_tbl[1207]? = some (.code (ps_y 192) (ps_by 192) (ps_ml 192) (ps_rty 192)) := rfl
set_option maxRecDepth 100000 in
theorem ps_cd193 : lw_tbl[1215]? = some (.code (ps_y 193) (ps_by 193) (ps_ml 193) (ps_rty 193)) := rfl
set_option maxRecDepth 100000 in
theorem ps_cd194 : lw_tbl[1211]? = some (.code (ps_y 194) (ps_by 194) (ps_ml 194) (ps_rty 194)) := rfl
set_option maxRecDepth 100000 in
theorem ps_cd195 : lw_tbl[1223]? = some (.code (ps_y 195) (ps_by 195) (ps_ml 195) (ps_rty 195)) := rfl
set_option maxRecDepth 100000 in
theorem ps_cd196 : lw_tbl[1219]? = some (.code (ps_y 196) (ps_by 196) (ps_ml 196) (ps_rty 196)) := rfl
set_option maxRecDepth 100000 in
theorem ps_cd197 : lw_tbl[1227]? = some (.code (ps_y 197) (ps_by 197) (ps_ml 197) (ps_rty 197)) := rfl
set_option maxRecDepth 100000 in
theorem ps_cd198 : lw_tbl[1236]? = some (.code (ps_y 198) (ps_by 198) (ps_ml 198) (ps_rty 198)) := rfl
set_option maxRecDepth 100000 in
theorem ps_cd199 : lw_tbl[1231]? = some (.code (ps_y 199) (ps_by 199) (ps_ml 199) (ps_rty 199)) := rfl
set_option maxRecDepth 100000 in
theorem ps_cd200 : lw_tbl[1240]? = some (.code (ps_y 200) (ps_by 200) (ps_ml 200) (ps_rty 200)) := rfl
set_option maxRecDepth 100000 in
theorem ps_cd201 : lw_tbl[1244]? = some (.code (ps_y 201) (ps_by 201) (ps_ml 201) (ps_rty 201)) := rfl
set_option maxRecDepth 100000 in
theorem ps_cd202 : lw_tbl[1248]? = some (.code (ps_y 202) (ps_by 202) (ps_ml 202) (ps_rty 202)) := rfl
set_option maxRecDepth 100000 in
theorem ps_cd203 : lw_tbl[1261]? = some (.code (ps_y 203) (ps_by 203) (ps_ml 203) (ps_rty 203)) := rfl
set_option maxRecDepth 100000 in
theorem ps_cd204 : lw_tbl[1269]? = some (.code (ps_y 204) (ps_by 204) (ps_ml 204) (ps_rty 204)) := rfl
set_option maxRecDepth 100000 in
theorem ps_cd205 : lw_tbl[1257]? = some (.code (ps_y 205) (ps_by 205) (ps_ml 205) (ps_rty 205)) := rfl
set_option maxRecDepth 100000 in
theorem ps_cd206 : lw_tbl[1265]? = some (.code (ps_y 206) (ps_by 206) (ps_ml 206) (ps_rty 206)) := rfl
set_option maxRecDepth 100000 in
theorem ps_cd207 : lw_tbl[1253]? = some (.code (ps_y 207) (ps_by 207) (ps_ml 207) (ps_rty 207)) := rfl
set_option maxRecDepth 100000 in
theorem ps_cd208 : lw_tbl[1273]? = some (.code (ps_y 208) (ps_by 208) (ps_ml 208) (ps_rty 208)) := rfl
set_option maxRecDepth 100000 in
theorem ps_cd209 : lw_tbl[1277]? = some (.code (ps_y 209) (ps_by 209) (ps_ml 209) (ps_rty 209)) := rfl
set_option maxRecDepth 100000 in
theorem ps_cd210 : lw_tbl[1300]? = some (.code (ps_y 210) (ps_by 210) (ps_ml 210) (ps_rty 210)) := rfl
set_option maxRecDepth 100000 in
theorem ps_cd211 : lw_tbl[1293]? = some (.code (ps_y 211) (ps_by 211) (ps_ml 211) (ps_rty 211)) := rfl
set_option maxRecDepth 100000 in
theorem ps_cd212 : lw_tbl[1296]? = some (.code (ps_y 212) (ps_by 212) (ps_ml 212) (ps_rty 212)) := rfl
set_option maxRecDepth 100000 in
theorem ps_cd213 : lw_tbl[1284]? = some (.code (ps_y 213) (ps_by 213) (ps_ml 213) (ps_rty 213)) := rfl
set_option maxRecDepth 100000 in
theorem ps_cd214 : lw_tbl[1289]? = some (.code (ps_y 214) (ps_by 214) (ps_ml 214) (ps_rty 214)) := rfl
set_option maxRecDepth 100000 in
theorem ps_cd215 : lw_tbl[1281]? = some (.code (ps_y 215) (ps_by 215) (ps_ml 215) (ps_rty 215)) := rfl
set_option maxRecDepth 100000 in
theorem ps_cd216 : lw_tbl[1304]? = some (.code (ps_y 216) (ps_by 216) (ps_ml 216) (ps_rty 216)) := rfl
set_option maxRecDepth 100000 in
theorem ps_cd217 : lw_tbl[1317]? = some (.code (ps_y 217) (ps_by 217) (ps_ml 217) (ps_rty 217)) := rfl
set_option maxRecDepth 100000 in
theorem ps_cd218 : lw_tbl[1314]? = some (.code (ps_y 218) (ps_by 218) (ps_ml 218) (ps_rty 218)) := rfl
set_option maxRecDepth 100000 in
theorem ps_cd219 : lw_tbl[1308]? = some (.code (ps_y 219) (ps_by 219) (ps_ml 219) (ps_rty 219)) := rfl
set_option maxRecDepth 100000 in
theorem ps_cd220 : lw_tbl[1321]? = some (.code (ps_y 220) (ps_by 220) (ps_ml 220) (ps_rty 220)) := rfl
set_option maxRecDepth 100000 in
theorem ps_cd221 : lw_tbl[1325]? = some (.code (ps_y 221) (ps_by 221) (ps_ml 221) (ps_rty 221)) := rfl
set_option maxRecDepth 100000 in
theorem ps_cd222 : lw_tbl[1329]? = some (.code (ps_y 222) (ps_by 222) (ps_ml 222) (ps_rty 222)) := rfl
set_option maxRecDepth 100000 in
theorem ps_cd223 : lw_tbl[1341]? = some (.code (ps_y 223) (ps_by 223) (ps_ml 223) (ps_rty 223)) := rfl
set_option maxRecDepth 100000 in
theorem ps_cd224 : lw_tbl[1345]? = some (.code (ps_y 224) (ps_by 224) (ps_ml 224) (ps_rty 224)) := rfl
set_option maxRecDepth 100000 in
theorem ps_cd225 : lw_tbl[1349]? = some (.code (ps_y 225) (ps_by 225) (ps_ml 225) (ps_rty 225)) := rfl
set_option maxRecDepth 100000 in
theorem ps_cd226 : lw_tbl[1337]? = some (.code (ps_y 226) (ps_by 226) (ps_ml 226) (ps_rty 226)) := rfl
set_option maxRecDepth 100000 in
theorem ps_cd227 : lw_tbl[1333]? = some (.code (ps_y 227) (ps_by 227) (ps_ml 227) (ps_rty 227)) := rfl
set_option maxRecDepth 100000 in
theorem ps_cd228 : lw_tbl[1353]? = some (.code (ps_y 228) (ps_by 228) (ps_ml 228) (ps_rty 228)) := rfl
set_option maxRecDepth 100000 in
theorem ps_cd229 : lw_tbl[1357]? = some (.code (ps_y 229) (ps_by 229) (ps_ml 229) (ps_rty 229)) := rfl
set_option maxRecDepth 100000 in
theorem ps_cd230 : lw_tbl[1361]? = some (.code (ps_y 230) (ps_by 230) (ps_ml 230) (ps_rty 230)) := rfl
set_option maxRecDepth 100000 in
theorem ps_cd231 : lw_tbl[793]? = some (.code (ps_y 231) (ps_by 231) (ps_ml 231) (ps_rty 231)) := rfl
set_option maxRecDepth 100000 in
theorem ps_cd232 : lw_tbl[331]? = some (.code (ps_y 232) (ps_by 232) (ps_ml 232) (ps_rty 232)) := rfl
set_option maxRecDepth 100000 in
theorem ps_cd233 : lw_tbl[328]? = some (.code (ps_y 233) (ps_by 233) (ps_ml 233) (ps_rty 233)) := rfl
set_option maxRecDepth 100000 in
theorem ps_cd234 : lw_tbl[337]? = some (.code (ps_y 234) (ps_by 234) (ps_ml 234) (ps_rty 234)) := rfl
set_option maxRecDepth 100000 in
theorem ps_cd235 : lw_tbl[334]? = some (.code (ps_y 235) (ps_by 235) (ps_ml 235) (ps_rty 235)) := rfl
set_option maxRecDepth 100000 in
theorem ps_cd236 : lw_tbl[406]? = some (.code (ps_y 236) (ps_by 236) (ps_ml 236) (ps_rty 236)) := rfl
