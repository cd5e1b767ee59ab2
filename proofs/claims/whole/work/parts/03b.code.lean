/-! the methods' code words, by program -/
theorem dxMc0 : lw_tbl[126]? = some (Cond.code (dxY 0) (dxB 0) (dxMl 0) (dxRt 0)) := by decide +kernel
theorem dxMc1 : lw_tbl[322]? = some (Cond.code (dxY 1) (dxB 1) (dxMl 1) (dxRt 1)) := by decide +kernel
theorem dxMc2 : lw_tbl[461]? = some (Cond.code (dxY 2) (dxB 2) (dxMl 2) (dxRt 2)) := by decide +kernel
theorem dxMc3 : lw_tbl[370]? = some (Cond.code (dxY 3) (dxB 3) (dxMl 3) (dxRt 3)) := by decide +kernel
theorem dxMc4 : lw_tbl[465]? = some (Cond.code (dxY 4) (dxB 4) (dxMl 4) (dxRt 4)) := by decide +kernel
theorem dxMc5 : lw_tbl[180]? = some (Cond.code (dxY 5) (dxB 5) (dxMl 5) (dxRt 5)) := by decide +kernel
theorem dxMc6 : lw_tbl[530]? = some (Cond.code (dxY 6) (dxB 6) (dxMl 6) (dxRt 6)) := by decide +kernel
theorem dxMc7 : lw_tbl[542]? = some (Cond.code (dxY 7) (dxB 7) (dxMl 7) (dxRt 7)) := by decide +kernel
theorem dxMc8 : lw_tbl[534]? = some (Cond.code (dxY 8) (dxB 8) (dxMl 8) (dxRt 8)) := by decide +kernel
theorem dxMc9 : lw_tbl[547]? = some (Cond.code (dxY 9) (dxB 9) (dxMl 9) (dxRt 9)) := by decide +kernel
theorem dxMc10 : lw_tbl[551]? = some (Cond.code (dxY 10) (dxB 10) (dxMl 10) (dxRt 10)) := by decide +kernel
theorem dxMc11 : lw_tbl[76]? = some (Cond.code (dxY 11) (dxB 11) (dxMl 11) (dxRt 11)) := by decide +kernel
theorem dxMc12 : lw_tbl[287]? = some (Cond.code (dxY 12) (dxB 12) (dxMl 12) (dxRt 12)) := by decide +kernel
theorem dxMc13 : lw_tbl[314]? = some (Cond.code (dxY 13) (dxB 13) (dxMl 13) (dxRt 13)) := by decide +kernel
theorem dxMc14 : lw_tbl[310]? = some (Cond.code (dxY 14) (dxB 14) (dxMl 14) (dxRt 14)) := by decide +kernel
theorem dxMc15 : lw_tbl[318]? = some (Cond.code (dxY 15) (dxB 15) (dxMl 15) (dxRt 15)) := by decide +kernel
theorem dxMc16 : lw_tbl[349]? = some (Cond.code (dxY 16) (dxB 16) (dxMl 16) (dxRt 16)) := by decide +kernel
theorem dxMc17 : lw_tbl[357]? = some (Cond.code (dxY 17) (dxB 17) (dxMl 17) (dxRt 17)) := by decide +kernel
theorem dxMc18 : lw_tbl[92]? = some (Cond.code (dxY 18) (dxB 18) (dxMl 18) (dxRt 18)) := by decide +kernel
theorem dxMc19 : lw_tbl[291]? = some (Cond.code (dxY 19) (dxB 19) (dxMl 19) (dxRt 19)) := by decide +kernel
theorem dxMc20 : lw_tbl[382]? = some (Cond.code (dxY 20) (dxB 20) (dxMl 20) (dxRt 20)) := by decide +kernel
theorem dxMc21 : lw_tbl[306]? = some (Cond.code (dxY 21) (dxB 21) (dxMl 21) (dxRt 21)) := by decide +kernel
theorem dxMc22 : lw_tbl[586]? = some (Cond.code (dxY 22) (dxB 22) (dxMl 22) (dxRt 22)) := by decide +kernel
theorem dxMc23 : lw_tbl[345]? = some (Cond.code (dxY 23) (dxB 23) (dxMl 23) (dxRt 23)) := by decide +kernel
theorem dxMc24 : lw_tbl[538]? = some (Cond.code (dxY 24) (dxB 24) (dxMl 24) (dxRt 24)) := by decide +kernel
theorem dxMc25 : lw_tbl[341]? = some (Cond.code (dxY 25) (dxB 25) (dxMl 25) (dxRt 25)) := by decide +kernel
theorem dxMc26 : lw_tbl[353]? = some (Cond.code (dxY 26) (dxB 26) (dxMl 26) (dxRt 26)) := by decide +kernel
theorem dxMc27 : lw_tbl[428]? = some (Cond.code (dxY 27) (dxB 27) (dxMl 27) (dxRt 27)) := by decide +kernel
theorem dxMc28 : lw_tbl[628]? = some (Cond.code (dxY 28) (dxB 28) (dxMl 28) (dxRt 28)) := by decide +kernel
theorem dxMc29 : lw_tbl[495]? = some (Cond.code (dxY 29) (dxB 29) (dxMl 29) (dxRt 29)) := by decide +kernel
theorem dxMc30 : lw_tbl[424]? = some (Cond.code (dxY 30) (dxB 30) (dxMl 30) (dxRt 30)) := by decide +kernel
theorem dxMc31 : lw_tbl[332]? = some (Cond.code (dxY 31) (dxB 31) (dxMl 31) (dxRt 31)) := by decide +kernel
theorem dxMc32 : lw_tbl[299]? = some (Cond.code (dxY 32) (dxB 32) (dxMl 32) (dxRt 32)) := by decide +kernel
theorem dxMc33 : lw_tbl[436]? = some (Cond.code (dxY 33) (dxB 33) (dxMl 33) (dxRt 33)) := by decide +kernel
theorem dxMc34 : lw_tbl[440]? = some (Cond.code (dxY 34) (dxB 34) (dxMl 34) (dxRt 34)) := by decide +kernel
theorem dxMc35 : lw_tbl[449]? = some (Cond.code (dxY 35) (dxB 35) (dxMl 35) (dxRt 35)) := by decide +kernel
theorem dxMc36 : lw_tbl[453]? = some (Cond.code (dxY 36) (dxB 36) (dxMl 36) (dxRt 36)) := by decide +kernel
theorem dxMc37 : lw_tbl[518]? = some (Cond.code (dxY 37) (dxB 37) (dxMl 37) (dxRt 37)) := by decide +kernel
theorem dxMc38 : lw_tbl[681]? = some (Cond.code (dxY 38) (dxB 38) (dxMl 38) (dxRt 38)) := by decide +kernel
theorem dxMc39 : lw_tbl[694]? = some (Cond.code (dxY 39) (dxB 39) (dxMl 39) (dxRt 39)) := by decide +kernel
theorem dxMc40 : lw_tbl[361]? = some (Cond.code (dxY 40) (dxB 40) (dxMl 40) (dxRt 40)) := by decide +kernel
theorem dxMc41 : lw_tbl[398]? = some (Cond.code (dxY 41) (dxB 41) (dxMl 41) (dxRt 41)) := by decide +kernel
theorem dxMc42 : lw_tbl[393]? = some (Cond.code (dxY 42) (dxB 42) (dxMl 42) (dxRt 42)) := by decide +kernel
theorem dxMc43 : lw_tbl[389]? = some (Cond.code (dxY 43) (dxB 43) (dxMl 43) (dxRt 43)) := by decide +kernel
theorem dxMc44 : lw_tbl[504]? = some (Cond.code (dxY 44) (dxB 44) (dxMl 44) (dxRt 44)) := by decide +kernel
theorem dxMc45 : lw_tbl[514]? = some (Cond.code (dxY 45) (dxB 45) (dxMl 45) (dxRt 45)) := by decide +kernel
theorem dxMc46 : lw_tbl[402]? = some (Cond.code (dxY 46) (dxB 46) (dxMl 46) (dxRt 46)) := by decide +kernel
theorem dxMc47 : lw_tbl[410]? = some (Cond.code (dxY 47) (dxB 47) (dxMl 47) (dxRt 47)) := by decide +kernel
theorem dxMc48 : lw_tbl[62]? = some (Cond.code (dxY 48) (dxB 48) (dxMl 48) (dxRt 48)) := by decide +kernel
theorem dxMc49 : lw_tbl[237]? = some (Cond.code (dxY 49) (dxB 49) (dxMl 49) (dxRt 49)) := by decide +kernel
theorem dxMc50 : lw_tbl[245]? = some (Cond.code (dxY 50) (dxB 50) (dxMl 50) (dxRt 50)) := by decide +kernel
theorem dxMc51 : lw_tbl[233]? = some (Cond.code (dxY 51) (dxB 51) (dxMl 51) (dxRt 51)) := by decide +kernel
theorem dxMc52 : lw_tbl[257]? = some (Cond.code (dxY 52) (dxB 52) (dxMl 52) (dxRt 52)) := by decide +kernel
theorem dxMc53 : lw_tbl[275]? = some (Cond.code (dxY 53) (dxB 53) (dxMl 53) (dxRt 53)) := by decide +kernel
theorem dxMc54 : lw_tbl[253]? = some (Cond.code (dxY 54) (dxB 54) (dxMl 54) (dxRt 54)) := by decide +kernel
theorem dxMc55 : lw_tbl[271]? = some (Cond.code (dxY 55) (dxB 55) (dxMl 55) (dxRt 55)) := by decide +kernel
theorem dxMc56 : lw_tbl[295]? = some (Cond.code (dxY 56) (dxB 56) (dxMl 56) (dxRt 56)) := by decide +kernel
theorem dxMc57 : lw_tbl[132]? = some (Cond.code (dxY 57) (dxB 57) (dxMl 57) (dxRt 57)) := by decide +kernel
theorem dxMc58 : lw_tbl[378]? = some (Cond.code (dxY 58) (dxB 58) (dxMl 58) (dxRt 58)) := by decide +kernel
theorem dxMc59 : lw_tbl[374]? = some (Cond.code (dxY 59) (dxB 59) (dxMl 59) (dxRt 59)) := by decide +kernel
theorem dxMc60 : lw_tbl[469]? = some (Cond.code (dxY 60) (dxB 60) (dxMl 60) (dxRt 60)) := by decide +kernel
theorem dxMc61 : lw_tbl[160]? = some (Cond.code (dxY 61) (dxB 61) (dxMl 61) (dxRt 61)) := by decide +kernel
theorem dxMc62 : lw_tbl[620]? = some (Cond.code (dxY 62) (dxB 62) (dxMl 62) (dxRt 62)) := by decide +kernel
theorem dxMc63 : lw_tbl[612]? = some (Cond.code (dxY 63) (dxB 63) (dxMl 63) (dxRt 63)) := by decide +kernel
theorem dxMc64 : lw_tbl[608]? = some (Cond.code (dxY 64) (dxB 64) (dxMl 64) (dxRt 64)) := by decide +kernel
theorem dxMc65 : lw_tbl[636]? = some (Cond.code (dxY 65) (dxB 65) (dxMl 65) (dxRt 65)) := by decide +kernel
theorem dxMc66 : lw_tbl[54]? = some (Cond.code (dxY 66) (dxB 66) (dxMl 66) (dxRt 66)) := by decide +kernel
theorem dxMc67 : lw_tbl[229]? = some (Cond.code (dxY 67) (dxB 67) (dxMl 67) (dxRt 67)) := by decide +kernel
theorem dxMc68 : lw_tbl[241]? = some (Cond.code (dxY 68) (dxB 68) (dxMl 68) (dxRt 68)) := by decide +kernel
theorem dxMc69 : lw_tbl[249]? = some (Cond.code (dxY 69) (dxB 69) (dxMl 69) (dxRt 69)) := by decide +kernel
theorem dxMc70 : lw_tbl[283]? = some (Cond.code (dxY 70) (dxB 70) (dxMl 70) (dxRt 70)) := by decide +kernel
theorem dxMc71 : lw_tbl[327]? = some (Cond.code (dxY 71) (dxB 71) (dxMl 71) (dxRt 71)) := by decide +kernel
theorem dxMc72 : lw_tbl[336]? = some (Cond.code (dxY 72) (dxB 72) (dxMl 72) (dxRt 72)) := by decide +kernel
theorem dxMc73 : lw_tbl[366]? = some (Cond.code (dxY 73) (dxB 73) (dxMl 73) (dxRt 73)) := by decide +kernel
theorem dxMc74 : lw_tbl[420]? = some (Cond.code (dxY 74) (dxB 74) (dxMl 74) (dxRt 74)) := by decide +kernel
theorem dxMc75 : lw_tbl[432]? = some (Cond.code (dxY 75) (dxB 75) (dxMl 75) (dxRt 75)) := by decide +kernel
theorem dxMc76 : lw_tbl[445]? = some (Cond.code (dxY 76) (dxB 76) (dxMl 76) (dxRt 76)) := by decide +kernel
theorem dxMc77 : lw_tbl[457]? = some (Cond.code (dxY 77) (dxB 77) (dxMl 77) (dxRt 77)) := by decide +kernel
theorem dxMc78 : lw_tbl[473]? = some (Cond.code (dxY 78) (dxB 78) (dxMl 78) (dxRt 78)) := by decide +kernel
theorem dxMc79 : lw_tbl[481]? = some (Cond.code (dxY 79) (dxB 79) (dxMl 79) (dxRt 79)) := by decide +kernel
theorem dxMc80 : lw_tbl[509]? = some (Cond.code (dxY 80) (dxB 80) (dxMl 80) (dxRt 80)) := by decide +kernel
theorem dxMc81 : lw_tbl[522]? = some (Cond.code (dxY 81) (dxB 81) (dxMl 81) (dxRt 81)) := by decide +kernel
theorem dxMc82 : lw_tbl[556]? = some (Cond.code (dxY 82) (dxB 82) (dxMl 82) (dxRt 82)) := by decide +kernel
theorem dxMc83 : lw_tbl[570]? = some (Cond.code (dxY 83) (dxB 83) (dxMl 83) (dxRt 83)) := by decide +kernel
theorem dxMc84 : lw_tbl[574]? = some (Cond.code (dxY 84) (dxB 84) (dxMl 84) (dxRt 84)) := by decide +kernel
theorem dxMc85 : lw_tbl[599]? = some (Cond.code (dxY 85) (dxB 85) (dxMl 85) (dxRt 85)) := by decide +kernel
theorem dxMc86 : lw_tbl[604]? = some (Cond.code (dxY 86) (dxB 86) (dxMl 86) (dxRt 86)) := by decide +kernel
theorem dxMc87 : lw_tbl[616]? = some (Cond.code (dxY 87) (dxB 87) (dxMl 87) (dxRt 87)) := by decide +kernel
theorem dxMc88 : lw_tbl[624]? = some (Cond.code (dxY 88) (dxB 88) (dxMl 88) (dxRt 88)) := by decide +kernel
theorem dxMc89 : lw_tbl[642]? = some (Cond.code (dxY 89) (dxB 89) (dxMl 89) (dxRt 89)) := by decide +kernel
theorem dxMc90 : lw_tbl[654]? = some (Cond.code (dxY 90) (dxB 90) (dxMl 90) (dxRt 90)) := by decide +kernel
theorem dxMc91 : lw_tbl[662]? = some (Cond.code (dxY 91) (dxB 91) (dxMl 91) (dxRt 91)) := by decide +kernel
theorem dxMc92 : lw_tbl[666]? = some (Cond.code (dxY 92) (dxB 92) (dxMl 92) (dxRt 92)) := by decide +kernel
theorem dxMc93 : lw_tbl[673]? = some (Cond.code (dxY 93) (dxB 93) (dxMl 93) (dxRt 93)) := by decide +kernel
theorem dxMc94 : lw_tbl[685]? = some (Cond.code (dxY 94) (dxB 94) (dxMl 94) (dxRt 94)) := by decide +kernel
theorem dxMc95 : lw_tbl[690]? = some (Cond.code (dxY 95) (dxB 95) (dxMl 95) (dxRt 95)) := by decide +kernel
theorem dxMc96 : lw_tbl[302]? = some (Cond.code (dxY 96) (dxB 96) (dxMl 96) (dxRt 96)) := by decide +kernel
theorem dxMc97 : lw_tbl[406]? = some (Cond.code (dxY 97) (dxB 97) (dxMl 97) (dxRt 97)) := by decide +kernel
theorem dxMc98 : lw_tbl[676]? = some (Cond.code (dxY 98) (dxB 98) (dxMl 98) (dxRt 98)) := by decide +kernel
theorem dxMc99 : lw_tbl[476]? = some (Cond.code (dxY 99) (dxB 99) (dxMl 99) (dxRt 99)) := by decide +kernel
theorem dxMc100 : lw_tbl[498]? = some (Cond.code (dxY 100) (dxB 100) (dxMl 100) (dxRt 100)) := by decide +kernel
theorem dxMc101 : lw_tbl[491]? = some (Cond.code (dxY 101) (dxB 101) (dxMl 101) (dxRt 101)) := by decide +kernel
theorem dxMc102 : lw_tbl[488]? = some (Cond.code (dxY 102) (dxB 102) (dxMl 102) (dxRt 102)) := by decide +kernel
theorem dxMc103 : lw_tbl[485]? = some (Cond.code (dxY 103) (dxB 103) (dxMl 103) (dxRt 103)) := by decide +kernel
theorem dxMc104 : lw_tbl[582]? = some (Cond.code (dxY 104) (dxB 104) (dxMl 104) (dxRt 104)) := by decide +kernel
theorem dxMc105 : lw_tbl[560]? = some (Cond.code (dxY 105) (dxB 105) (dxMl 105) (dxRt 105)) := by decide +kernel
theorem dxMc106 : lw_tbl[658]? = some (Cond.code (dxY 106) (dxB 106) (dxMl 106) (dxRt 106)) := by decide +kernel
theorem dxMc107 : lw_tbl[632]? = some (Cond.code (dxY 107) (dxB 107) (dxMl 107) (dxRt 107)) := by decide +kernel
theorem dxMc108 : lw_tbl[526]? = some (Cond.code (dxY 108) (dxB 108) (dxMl 108) (dxRt 108)) := by decide +kernel
theorem dxMc109 : lw_tbl[650]? = some (Cond.code (dxY 109) (dxB 109) (dxMl 109) (dxRt 109)) := by decide +kernel
theorem dxMc110 : lw_tbl[646]? = some (Cond.code (dxY 110) (dxB 110) (dxMl 110) (dxRt 110)) := by decide +kernel
theorem dxMc111 : lw_tbl[589]? = some (Cond.code (dxY 111) (dxB 111) (dxMl 111) (dxRt 111)) := by decide +kernel
theorem dxMc112 : lw_tbl[595]? = some (Cond.code (dxY 112) (dxB 112) (dxMl 112) (dxRt 112)) := by decide +kernel
theorem dxMc113 : lw_tbl[563]? = some (Cond.code (dxY 113) (dxB 113) (dxMl 113) (dxRt 113)) := by decide +kernel
theorem dxMc114 : lw_tbl[566]? = some (Cond.code (dxY 114) (dxB 114) (dxMl 114) (dxRt 114)) := by decide +kernel
theorem dxMc115 : lw_tbl[578]? = some (Cond.code (dxY 115) (dxB 115) (dxMl 115) (dxRt 115)) := by decide +kernel
theorem dxMc116 : lw_tbl[699]? = some (Cond.code (dxY 116) (dxB 116) (dxMl 116) (dxRt 116)) := by decide +kernel
theorem dxMc117 : lw_tbl[787]? = some (Cond.code (dxY 117) (dxB 117) (dxMl 117) (dxRt 117)) := by decide +kernel
theorem dxMc118 : lw_tbl[807]? = some (Cond.code (dxY 118) (dxB 118) (dxMl 118) (dxRt 118)) := by decide +kernel
theorem dxMc119 : lw_tbl[935]? = some (Cond.code (dxY 119) (dxB 119) (dxMl 119) (dxRt 119)) := by decide +kernel
theorem dxMc120 : lw_tbl[783]? = some (Cond.code (dxY 120) (dxB 120) (dxMl 120) (dxRt 120)) := by decide +kernel
theorem dxMc121 : lw_tbl[791]? = some (Cond.code (dxY 121) (dxB 121) (dxMl 121) (dxRt 121)) := by decide +kernel
theorem dxMc122 : lw_tbl[811]? = some (Cond.code (dxY 122) (dxB 122) (dxMl 122) (dxRt 122)) := by decide +kernel
theorem dxMc123 : lw_tbl[803]? = some (Cond.code (dxY 123) (dxB 123) (dxMl 123) (dxRt 123)) := by decide +kernel
theorem dxMc124 : lw_tbl[799]? = some (Cond.code (dxY 124) (dxB 124) (dxMl 124) (dxRt 124)) := by decide +kernel
theorem dxMc125 : lw_tbl[815]? = some (Cond.code (dxY 125) (dxB 125) (dxMl 125) (dxRt 125)) := by decide +kernel
theorem dxMc126 : lw_tbl[795]? = some (Cond.code (dxY 126) (dxB 126) (dxMl 126) (dxRt 126)) := by decide +kernel
theorem dxMc127 : lw_tbl[819]? = some (Cond.code (dxY 127) (dxB 127) (dxMl 127) (dxRt 127)) := by decide +kernel
theorem dxMc128 : lw_tbl[831]? = some (Cond.code (dxY 128) (dxB 128) (dxMl 128) (dxRt 128)) := by decide +kernel
theorem dxMc129 : lw_tbl[823]? = some (Cond.code (dxY 129) (dxB 129) (dxMl 129) (dxRt 129)) := by decide +kernel
theorem dxMc130 : lw_tbl[835]? = some (Cond.code (dxY 130) (dxB 130) (dxMl 130) (dxRt 130)) := by decide +kernel
theorem dxMc131 : lw_tbl[827]? = some (Cond.code (dxY 131) (dxB 131) (dxMl 131) (dxRt 131)) := by decide +kernel
theorem dxMc132 : lw_tbl[855]? = some (Cond.code (dxY 132) (dxB 132) (dxMl 132) (dxRt 132)) := by decide +kernel
theorem dxMc133 : lw_tbl[851]? = some (Cond.code (dxY 133) (dxB 133) (dxMl 133) (dxRt 133)) := by decide +kernel
theorem dxMc134 : lw_tbl[859]? = some (Cond.code (dxY 134) (dxB 134) (dxMl 134) (dxRt 134)) := by decide +kernel
theorem dxMc135 : lw_tbl[847]? = some (Cond.code (dxY 135) (dxB 135) (dxMl 135) (dxRt 135)) := by decide +kernel
theorem dxMc136 : lw_tbl[843]? = some (Cond.code (dxY 136) (dxB 136) (dxMl 136) (dxRt 136)) := by decide +kernel
theorem dxMc137 : lw_tbl[839]? = some (Cond.code (dxY 137) (dxB 137) (dxMl 137) (dxRt 137)) := by decide +kernel
theorem dxMc138 : lw_tbl[867]? = some (Cond.code (dxY 138) (dxB 138) (dxMl 138) (dxRt 138)) := by decide +kernel
theorem dxMc139 : lw_tbl[863]? = some (Cond.code (dxY 139) (dxB 139) (dxMl 139) (dxRt 139)) := by decide +kernel
theorem dxMc140 : lw_tbl[871]? = some (Cond.code (dxY 140) (dxB 140) (dxMl 140) (dxRt 140)) := by decide +kernel
theorem dxMc141 : lw_tbl[875]? = some (Cond.code (dxY 141) (dxB 141) (dxMl 141) (dxRt 141)) := by decide +kernel
theorem dxMc142 : lw_tbl[879]? = some (Cond.code (dxY 142) (dxB 142) (dxMl 142) (dxRt 142)) := by decide +kernel
theorem dxMc143 : lw_tbl[888]? = some (Cond.code (dxY 143) (dxB 143) (dxMl 143) (dxRt 143)) := by decide +kernel
theorem dxMc144 : lw_tbl[883]? = some (Cond.code (dxY 144) (dxB 144) (dxMl 144) (dxRt 144)) := by decide +kernel
theorem dxMc145 : lw_tbl[896]? = some (Cond.code (dxY 145) (dxB 145) (dxMl 145) (dxRt 145)) := by decide +kernel
theorem dxMc146 : lw_tbl[892]? = some (Cond.code (dxY 146) (dxB 146) (dxMl 146) (dxRt 146)) := by decide +kernel
theorem dxMc147 : lw_tbl[900]? = some (Cond.code (dxY 147) (dxB 147) (dxMl 147) (dxRt 147)) := by decide +kernel
theorem dxMc148 : lw_tbl[909]? = some (Cond.code (dxY 148) (dxB 148) (dxMl 148) (dxRt 148)) := by decide +kernel
theorem dxMc149 : lw_tbl[913]? = some (Cond.code (dxY 149) (dxB 149) (dxMl 149) (dxRt 149)) := by decide +kernel
theorem dxMc150 : lw_tbl[904]? = some (Cond.code (dxY 150) (dxB 150) (dxMl 150) (dxRt 150)) := by decide +kernel
theorem dxMc151 : lw_tbl[921]? = some (Cond.code (dxY 151) (dxB 151) (dxMl 151) (dxRt 151)) := by decide +kernel
theorem dxMc152 : lw_tbl[917]? = some (Cond.code (dxY 152) (dxB 152) (dxMl 152) (dxRt 152)) := by decide +kernel
theorem dxMc153 : lw_tbl[928]? = some (Cond.code (dxY 153) (dxB 153) (dxMl 153) (dxRt 153)) := by decide +kernel
theorem dxMc154 : lw_tbl[925]? = some (Cond.code (dxY 154) (dxB 154) (dxMl 154) (dxRt 154)) := by decide +kernel
theorem dxMc155 : lw_tbl[938]? = some (Cond.code (dxY 155) (dxB 155) (dxMl 155) (dxRt 155)) := by decide +kernel
theorem dxMc156 : lw_tbl[941]? = some (Cond.code (dxY 156) (dxB 156) (dxMl 156) (dxRt 156)) := by decide +kernel
theorem dxMc157 : lw_tbl[932]? = some (Cond.code (dxY 157) (dxB 157) (dxMl 157) (dxRt 157)) := by decide +kernel
theorem dxMc158 : lw_tbl[945]? = some (Cond.code (dxY 158) (dxB 158) (dxMl 158) (dxRt 158)) := by decide +kernel
theorem dxMc159 : lw_tbl[949]? = some (Cond.code (dxY 159) (dxB 159) (dxMl 159) (dxRt 159)) := by decide +kernel
theorem dxMc160 : lw_tbl[954]? = some (Cond.code (dxY 160) (dxB 160) (dxMl 160) (dxRt 160)) := by decide +kernel
theorem dxMc161 : lw_tbl[962]? = some (Cond.code (dxY 161) (dxB 161) (dxMl 161) (dxRt 161)) := by decide +kernel
theorem dxMc162 : lw_tbl[958]? = some (Cond.code (dxY 162) (dxB 162) (dxMl 162) (dxRt 162)) := by decide +kernel
theorem dxMc163 : lw_tbl[970]? = some (Cond.code (dxY 163) (dxB 163) (dxMl 163) (dxRt 163)) := by decide +kernel
theorem dxMc164 : lw_tbl[974]? = some (Cond.code (dxY 164) (dxB 164) (dxMl 164) (dxRt 164)) := by decide +kernel
theorem dxMc165 : lw_tbl[966]? = some (Cond.code (dxY 165) (dxB 165) (dxMl 165) (dxRt 165)) := by decide +kernel
theorem dxMc166 : lw_tbl[978]? = some (Cond.code (dxY 166) (dxB 166) (dxMl 166) (dxRt 166)) := by decide +kernel
theorem dxMc167 : lw_tbl[984]? = some (Cond.code (dxY 167) (dxB 167) (dxMl 167) (dxRt 167)) := by decide +kernel
theorem dxMc168 : lw_tbl[988]? = some (Cond.code (dxY 168) (dxB 168) (dxMl 168) (dxRt 168)) := by decide +kernel
theorem dxMc169 : lw_tbl[996]? = some (Cond.code (dxY 169) (dxB 169) (dxMl 169) (dxRt 169)) := by decide +kernel
theorem dxMc170 : lw_tbl[1000]? = some (Cond.code (dxY 170) (dxB 170) (dxMl 170) (dxRt 170)) := by decide +kernel
theorem dxMc171 : lw_tbl[1004]? = some (Cond.code (dxY 171) (dxB 171) (dxMl 171) (dxRt 171)) := by decide +kernel
theorem dxMc172 : lw_tbl[260]? = some (Cond.code (dxY 172) (dxB 172) (dxMl 172) (dxRt 172)) := by decide +kernel
theorem dxMc_all : ∀ k, k < 173 → lw_tbl[dxPs k]? = some (Cond.code (dxY k) (dxB k) (dxMl k) (dxRt k))
  | 0, _ => dxMc0
  | 1, _ => dxMc1
  | 2, _ => dxMc2
  | 3, _ => dxMc3
  | 4, _ => dxMc4
  | 5, _ => dxMc5
  | 6, _ => dxMc6
  | 7, _ => dxMc7
  | 8, _ => dxMc8
  | 9, _ => dxMc9
  | 10, _ => dxMc10
  | 11, _ => dxMc11
  | 12, _ => dxMc12
  | 13, _ => dxMc13
  | 14, _ => dxMc14
  | 15, _ => dxMc15
  | 16, _ => dxMc16
  | 17, _ => dxMc17
  | 18, _ => dxMc18
  | 19, _ => dxMc19
  | 20, _ => dxMc20
  | 21, _ => dxMc21
  | 22, _ => dxMc22
  | 23, _ => dxMc23
  | 24, _ => dxMc24
  | 25, _ => dxMc25
  | 26, _ => dxMc26
  | 27, _ => dxMc27
  | 28, _ => dxMc28
  | 29, _ => dxMc29
  | 30, _ => dxMc30
  | 31, _ => dxMc31
  | 32, _ => dxMc32
  | 33, _ => dxMc33
  | 34, _ => dxMc34
  | 35, _ => dxMc35
  | 36, _ => dxMc36
  | 37, _ => dxMc37
  | 38, _ => dxMc38
  | 39, _ => dxMc39
  | 40, _ => dxMc40
  | 41, _ => dxMc41
  | 42, _ => dxMc42
  | 43, _ => dxMc43
  | 44, _ => dxMc44
  | 45, _ => dxMc45
  | 46, _ => dxMc46
  | 47, _ => dxMc47
  | 48, _ => dxMc48
  | 49, _ => dxMc49
  | 50, _ => dxMc50
  | 51, _ => dxMc51
  | 52, _ => dxMc52
  | 53, _ => dxMc53
  | 54, _ => dxMc54
  | 55, _ => dxMc55
  | 56, _ => dxMc56
  | 57, _ => dxMc57
  | 58, _ => dxMc58
  | 59, _ => dxMc59
  | 60, _ => dxMc60
  | 61, _ => dxMc61
  | 62, _ => dxMc62
  | 63, _ => dxMc63
  | 64, _ => dxMc64
  | 65, _ => dxMc65
  | 66, _ => dxMc66
  | 67, _ => dxMc67
  | 68, _ => dxMc68
  | 69, _ => dxMc69
  | 70, _ => dxMc70
  | 71, _ => dxMc71
  | 72, _ => dxMc72
  | 73, _ => dxMc73
  | 74, _ => dxMc74
  | 75, _ => dxMc75
  | 76, _ => dxMc76
  | 77, _ => dxMc77
  | 78, _ => dxMc78
  | 79, _ => dxMc79
  | 80, _ => dxMc80
  | 81, _ => dxMc81
  | 82, _ => dxMc82
  | 83, _ => dxMc83
  | 84, _ => dxMc84
  | 85, _ => dxMc85
  | 86, _ => dxMc86
  | 87, _ => dxMc87
  | 88, _ => dxMc88
  | 89, _ => dxMc89
  | 90, _ => dxMc90
  | 91, _ => dxMc91
  | 92, _ => dxMc92
  | 93, _ => dxMc93
  | 94, _ => dxMc94
  | 95, _ => dxMc95
  | 96, _ => dxMc96
  | 97, _ => dxMc97
  | 98, _ => dxMc98
  | 99, _ => dxMc99
  | 100, _ => dxMc100
  | 101, _ => dxMc101
  | 102, _ => dxMc102
  | 103, _ => dxMc103
  | 104, _ => dxMc104
  | 105, _ => dxMc105
  | 106, _ => dxMc106
  | 107, _ => dxMc107
  | 108, _ => dxMc108
  | 109, _ => dxMc109
  | 110, _ => dxMc110
  | 111, _ => dxMc111
  | 112, _ => dxMc112
  | 113, _ => dxMc113
  | 114, _ => dxMc114
  | 115, _ => dxMc115
  | 116, _ => dxMc116
  | 117, _ => dxMc117
  | 118, _ => dxMc118
  | 119, _ => dxMc119
  | 120, _ => dxMc120
  | 121, _ => dxMc121
  | 122, _ => dxMc122
  | 123, _ => dxMc123
  | 124, _ => dxMc124
  | 125, _ => dxMc125
  | 126, _ => dxMc126
  | 127, _ => dxMc127
  | 128, _ => dxMc128
  | 129, _ => dxMc129
  | 130, _ => dxMc130
  | 131, _ => dxMc131
  | 132, _ => dxMc132
  | 133, _ => dxMc133
  | 134, _ => dxMc134
  | 135, _ => dxMc135
  | 136, _ => dxMc136
  | 137, _ => dxMc137
  | 138, _ => dxMc138
  | 139, _ => dxMc139
  | 140, _ => dxMc140
  | 141, _ => dxMc141
  | 142, _ => dxMc142
  | 143, _ => dxMc143
  | 144, _ => dxMc144
  | 145, _ => dxMc145
  | 146, _ => dxMc146
  | 147, _ => dxMc147
  | 148, _ => dxMc148
  | 149, _ => dxMc149
  | 150, _ => dxMc150
  | 151, _ => dxMc151
  | 152, _ => dxMc152
  | 153, _ => dxMc153
  | 154, _ => dxMc154
  | 155, _ => dxMc155
  | 156, _ => dxMc156
  | 157, _ => dxMc157
  | 158, _ => dxMc158
  | 159, _ => dxMc159
  | 160, _ => dxMc160
  | 161, _ => dxMc161
  | 162, _ => dxMc162
  | 163, _ => dxMc163
  | 164, _ => dxMc164
  | 165, _ => dxMc165
  | 166, _ => dxMc166
  | 167, _ => dxMc167
  | 168, _ => dxMc168
  | 169, _ => dxMc169
  | 170, _ => dxMc170
  | 171, _ => dxMc171
  | 172, _ => dxMc172
  | k + 173, h => absurd h (by omega)
