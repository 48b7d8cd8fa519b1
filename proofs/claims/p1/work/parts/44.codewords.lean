/-! OURS, printed: the words on each method's code, by their places. -/
set_option maxRecDepth 100000 in
theorem ck_d0 : TT[pg_cp 0]? = some (.code (pg_yn 0) (pg_cd 0) (pg_n 0) (pg_rt 0)) := rfl
set_option maxRecDepth 100000 in
theorem ck_d1 : TT[pg_cp 1]? = some (.code (pg_yn 1) (pg_cd 1) (pg_n 1) (pg_rt 1)) := rfl
set_option maxRecDepth 100000 in
theorem ck_d2 : TT[pg_cp 2]? = some (.code (pg_yn 2) (pg_cd 2) (pg_n 2) (pg_rt 2)) := rfl
set_option maxRecDepth 100000 in
theorem ck_d3 : TT[pg_cp 3]? = some (.code (pg_yn 3) (pg_cd 3) (pg_n 3) (pg_rt 3)) := rfl
set_option maxRecDepth 100000 in
theorem ck_d4 : TT[pg_cp 4]? = some (.code (pg_yn 4) (pg_cd 4) (pg_n 4) (pg_rt 4)) := rfl
set_option maxRecDepth 100000 in
theorem ck_d5 : TT[pg_cp 5]? = some (.code (pg_yn 5) (pg_cd 5) (pg_n 5) (pg_rt 5)) := rfl
set_option maxRecDepth 100000 in
theorem ck_d6 : TT[pg_cp 6]? = some (.code (pg_yn 6) (pg_cd 6) (pg_n 6) (pg_rt 6)) := rfl
set_option maxRecDepth 100000 in
theorem ck_d7 : TT[pg_cp 7]? = some (.code (pg_yn 7) (pg_cd 7) (pg_n 7) (pg_rt 7)) := rfl
set_option maxRecDepth 100000 in
theorem ck_d8 : TT[pg_cp 8]? = some (.code (pg_yn 8) (pg_cd 8) (pg_n 8) (pg_rt 8)) := rfl
set_option maxRecDepth 100000 in
theorem ck_d9 : TT[pg_cp 9]? = some (.code (pg_yn 9) (pg_cd 9) (pg_n 9) (pg_rt 9)) := rfl
set_option maxRecDepth 100000 in
theorem ck_d10 : TT[pg_cp 10]? = some (.code (pg_yn 10) (pg_cd 10) (pg_n 10) (pg_rt 10)) := rfl
set_option maxRecDepth 100000 in
theorem ck_d11 : TT[pg_cp 11]? = some (.code (pg_yn 11) (pg_cd 11) (pg_n 11) (pg_rt 11)) := rfl
set_option maxRecDepth 100000 in
theorem ck_d12 : TT[pg_cp 12]? = some (.code (pg_yn 12) (pg_cd 12) (pg_n 12) (pg_rt 12)) := rfl
set_option maxRecDepth 100000 in
theorem ck_d13 : TT[pg_cp 13]? = some (.code (pg_yn 13) (pg_cd 13) (pg_n 13) (pg_rt 13)) := rfl
set_option maxRecDepth 100000 in
theorem ck_d14 : TT[pg_cp 14]? = some (.code (pg_yn 14) (pg_cd 14) (pg_n 14) (pg_rt 14)) := rfl
set_option maxRecDepth 100000 in
theorem ck_d15 : TT[pg_cp 15]? = some (.code (pg_yn 15) (pg_cd 15) (pg_n 15) (pg_rt 15)) := rfl
set_option maxRecDepth 100000 in
theorem ck_d16 : TT[pg_cp 16]? = some (.code (pg_yn 16) (pg_cd 16) (pg_n 16) (pg_rt 16)) := rfl
set_option maxRecDepth 100000 in
theorem ck_d17 : TT[pg_cp 17]? = some (.code (pg_yn 17) (pg_cd 17) (pg_n 17) (pg_rt 17)) := rfl
set_option maxRecDepth 100000 in
theorem ck_d18 : TT[pg_cp 18]? = some (.code (pg_yn 18) (pg_cd 18) (pg_n 18) (pg_rt 18)) := rfl
set_option maxRecDepth 100000 in
theorem ck_d19 : TT[pg_cp 19]? = some (.code (pg_yn 19) (pg_cd 19) (pg_n 19) (pg_rt 19)) := rfl
set_option maxRecDepth 100000 in
theorem ck_d20 : TT[pg_cp 20]? = some (.code (pg_yn 20) (pg_cd 20) (pg_n 20) (pg_rt 20)) := rfl
set_option maxRecDepth 100000 in
theorem ck_d21 : TT[pg_cp 21]? = some (.code (pg_yn 21) (pg_cd 21) (pg_n 21) (pg_rt 21)) := rfl
set_option maxRecDepth 100000 in
theorem ck_d22 : TT[pg_cp 22]? = some (.code (pg_yn 22) (pg_cd 22) (pg_n 22) (pg_rt 22)) := rfl
set_option maxRecDepth 100000 in
theorem ck_d23 : TT[pg_cp 23]? = some (.code (pg_yn 23) (pg_cd 23) (pg_n 23) (pg_rt 23)) := rfl
set_option maxRecDepth 100000 in
theorem ck_d24 : TT[pg_cp 24]? = some (.code (pg_yn 24) (pg_cd 24) (pg_n 24) (pg_rt 24)) := rfl
set_option maxRecDepth 100000 in
theorem ck_d25 : TT[pg_cp 25]? = some (.code (pg_yn 25) (pg_cd 25) (pg_n 25) (pg_rt 25)) := rfl
set_option maxRecDepth 100000 in
theorem ck_d26 : TT[pg_cp 26]? = some (.code (pg_yn 26) (pg_cd 26) (pg_n 26) (pg_rt 26)) := rfl
set_option maxRecDepth 100000 in
theorem ck_d27 : TT[pg_cp 27]? = some (.code (pg_yn 27) (pg_cd 27) (pg_n 27) (pg_rt 27)) := rfl
set_option maxRecDepth 100000 in
theorem ck_d28 : TT[pg_cp 28]? = some (.code (pg_yn 28) (pg_cd 28) (pg_n 28) (pg_rt 28)) := rfl
set_option maxRecDepth 100000 in
theorem ck_d29 : TT[pg_cp 29]? = some (.code (pg_yn 29) (pg_cd 29) (pg_n 29) (pg_rt 29)) := rfl
set_option maxRecDepth 100000 in
theorem ck_d30 : TT[pg_cp 30]? = some (.code (pg_yn 30) (pg_cd 30) (pg_n 30) (pg_rt 30)) := rfl
set_option maxRecDepth 100000 in
theorem ck_d31 : TT[pg_cp 31]? = some (.code (pg_yn 31) (pg_cd 31) (pg_n 31) (pg_rt 31)) := rfl
set_option maxRecDepth 100000 in
theorem ck_d32 : TT[pg_cp 32]? = some (.code (pg_yn 32) (pg_cd 32) (pg_n 32) (pg_rt 32)) := rfl
set_option maxRecDepth 100000 in
theorem ck_d33 : TT[pg_cp 33]? = some (.code (pg_yn 33) (pg_cd 33) (pg_n 33) (pg_rt 33)) := rfl
set_option maxRecDepth 100000 in
theorem ck_d34 : TT[pg_cp 34]? = some (.code (pg_yn 34) (pg_cd 34) (pg_n 34) (pg_rt 34)) := rfl
set_option maxRecDepth 100000 in
theorem ck_d35 : TT[pg_cp 35]? = some (.code (pg_yn 35) (pg_cd 35) (pg_n 35) (pg_rt 35)) := rfl
set_option maxRecDepth 100000 in
theorem ck_d36 : TT[pg_cp 36]? = some (.code (pg_yn 36) (pg_cd 36) (pg_n 36) (pg_rt 36)) := rfl
set_option maxRecDepth 100000 in
theorem ck_d37 : TT[pg_cp 37]? = some (.code (pg_yn 37) (pg_cd 37) (pg_n 37) (pg_rt 37)) := rfl
set_option maxRecDepth 100000 in
theorem ck_d38 : TT[pg_cp 38]? = some (.code (pg_yn 38) (pg_cd 38) (pg_n 38) (pg_rt 38)) := rfl
set_option maxRecDepth 100000 in
theorem ck_d39 : TT[pg_cp 39]? = some (.code (pg_yn 39) (pg_cd 39) (pg_n 39) (pg_rt 39)) := rfl
set_option maxRecDepth 100000 in
theorem ck_d40 : TT[pg_cp 40]? = some (.code (pg_yn 40) (pg_cd 40) (pg_n 40) (pg_rt 40)) := rfl
set_option maxRecDepth 100000 in
theorem ck_d41 : TT[pg_cp 41]? = some (.code (pg_yn 41) (pg_cd 41) (pg_n 41) (pg_rt 41)) := rfl
set_option maxRecDepth 100000 in
theorem ck_d42 : TT[pg_cp 42]? = some (.code (pg_yn 42) (pg_cd 42) (pg_n 42) (pg_rt 42)) := rfl
set_option maxRecDepth 100000 in
theorem ck_d43 : TT[pg_cp 43]? = some (.code (pg_yn 43) (pg_cd 43) (pg_n 43) (pg_rt 43)) := rfl
set_option maxRecDepth 100000 in
theorem ck_d44 : TT[pg_cp 44]? = some (.code (pg_yn 44) (pg_cd 44) (pg_n 44) (pg_rt 44)) := rfl
set_option maxRecDepth 100000 in
theorem ck_d45 : TT[pg_cp 45]? = some (.code (pg_yn 45) (pg_cd 45) (pg_n 45) (pg_rt 45)) := rfl
set_option maxRecDepth 100000 in
theorem ck_d46 : TT[pg_cp 46]? = some (.code (pg_yn 46) (pg_cd 46) (pg_n 46) (pg_rt 46)) := rfl
set_option maxRecDepth 100000 in
theorem ck_d47 : TT[pg_cp 47]? = some (.code (pg_yn 47) (pg_cd 47) (pg_n 47) (pg_rt 47)) := rfl
set_option maxRecDepth 100000 in
theorem ck_d48 : TT[pg_cp 48]? = some (.code (pg_yn 48) (pg_cd 48) (pg_n 48) (pg_rt 48)) := rfl
set_option maxRecDepth 100000 in
theorem ck_d49 : TT[pg_cp 49]? = some (.code (pg_yn 49) (pg_cd 49) (pg_n 49) (pg_rt 49)) := rfl
set_option maxRecDepth 100000 in
theorem ck_d50 : TT[pg_cp 50]? = some (.codeWith (pg_yn 50) (pg_cd 50) (pg_n 50) (pg_rt 50) (pg_hd 50)) := rfl
set_option maxRecDepth 100000 in
theorem ck_d51 : TT[pg_cp 51]? = some (.code (pg_yn 51) (pg_cd 51) (pg_n 51) (pg_rt 51)) := rfl
set_option maxRecDepth 100000 in
theorem ck_d52 : TT[pg_cp 52]? = some (.code (pg_yn 52) (pg_cd 52) (pg_n 52) (pg_rt 52)) := rfl
set_option maxRecDepth 100000 in
theorem ck_d53 : TT[pg_cp 53]? = some (.codeWith (pg_yn 53) (pg_cd 53) (pg_n 53) (pg_rt 53) (pg_hd 53)) := rfl
set_option maxRecDepth 100000 in
theorem ck_d54 : TT[pg_cp 54]? = some (.code (pg_yn 54) (pg_cd 54) (pg_n 54) (pg_rt 54)) := rfl
set_option maxRecDepth 100000 in
theorem ck_d55 : TT[pg_cp 55]? = some (.code (pg_yn 55) (pg_cd 55) (pg_n 55) (pg_rt 55)) := rfl
set_option maxRecDepth 100000 in
theorem ck_d56 : TT[pg_cp 56]? = some (.code (pg_yn 56) (pg_cd 56) (pg_n 56) (pg_rt 56)) := rfl
set_option maxRecDepth 100000 in
theorem ck_d57 : TT[pg_cp 57]? = some (.codeWith (pg_yn 57) (pg_cd 57) (pg_n 57) (pg_rt 57) (pg_hd 57)) := rfl
set_option maxRecDepth 100000 in
theorem ck_d58 : TT[pg_cp 58]? = some (.code (pg_yn 58) (pg_cd 58) (pg_n 58) (pg_rt 58)) := rfl
set_option maxRecDepth 100000 in
theorem ck_d59 : TT[pg_cp 59]? = some (.code (pg_yn 59) (pg_cd 59) (pg_n 59) (pg_rt 59)) := rfl
set_option maxRecDepth 100000 in
theorem ck_d60 : TT[pg_cp 60]? = some (.codeWith (pg_yn 60) (pg_cd 60) (pg_n 60) (pg_rt 60) (pg_hd 60)) := rfl
set_option maxRecDepth 100000 in
theorem ck_d61 : TT[pg_cp 61]? = some (.code (pg_yn 61) (pg_cd 61) (pg_n 61) (pg_rt 61)) := rfl
set_option maxRecDepth 100000 in
theorem ck_d62 : TT[pg_cp 62]? = some (.codeWith (pg_yn 62) (pg_cd 62) (pg_n 62) (pg_rt 62) (pg_hd 62)) := rfl
set_option maxRecDepth 100000 in
theorem ck_d63 : TT[pg_cp 63]? = some (.code (pg_yn 63) (pg_cd 63) (pg_n 63) (pg_rt 63)) := rfl
set_option maxRecDepth 100000 in
theorem ck_d64 : TT[pg_cp 64]? = some (.code (pg_yn 64) (pg_cd 64) (pg_n 64) (pg_rt 64)) := rfl
set_option maxRecDepth 100000 in
theorem ck_d65 : TT[pg_cp 65]? = some (.code (pg_yn 65) (pg_cd 65) (pg_n 65) (pg_rt 65)) := rfl
set_option maxRecDepth 100000 in
theorem ck_d66 : TT[pg_cp 66]? = some (.code (pg_yn 66) (pg_cd 66) (pg_n 66) (pg_rt 66)) := rfl
set_option maxRecDepth 100000 in
theorem ck_d67 : TT[pg_cp 67]? = some (.code (pg_yn 67) (pg_cd 67) (pg_n 67) (pg_rt 67)) := rfl
set_option maxRecDepth 100000 in
theorem ck_d68 : TT[pg_cp 68]? = some (.code (pg_yn 68) (pg_cd 68) (pg_n 68) (pg_rt 68)) := rfl
set_option maxRecDepth 100000 in
theorem ck_d69 : TT[pg_cp 69]? = some (.code (pg_yn 69) (pg_cd 69) (pg_n 69) (pg_rt 69)) := rfl
set_option maxRecDepth 100000 in
theorem ck_d70 : TT[pg_cp 70]? = some (.code (pg_yn 70) (pg_cd 70) (pg_n 70) (pg_rt 70)) := rfl
set_option maxRecDepth 100000 in
theorem ck_d71 : TT[pg_cp 71]? = some (.code (pg_yn 71) (pg_cd 71) (pg_n 71) (pg_rt 71)) := rfl
set_option maxRecDepth 100000 in
theorem ck_d72 : TT[pg_cp 72]? = some (.codeWith (pg_yn 72) (pg_cd 72) (pg_n 72) (pg_rt 72) (pg_hd 72)) := rfl
set_option maxRecDepth 100000 in
theorem ck_d73 : TT[pg_cp 73]? = some (.code (pg_yn 73) (pg_cd 73) (pg_n 73) (pg_rt 73)) := rfl
set_option maxRecDepth 100000 in
theorem ck_d74 : TT[pg_cp 74]? = some (.codeWith (pg_yn 74) (pg_cd 74) (pg_n 74) (pg_rt 74) (pg_hd 74)) := rfl
set_option maxRecDepth 100000 in
theorem ck_d75 : TT[pg_cp 75]? = some (.code (pg_yn 75) (pg_cd 75) (pg_n 75) (pg_rt 75)) := rfl
set_option maxRecDepth 100000 in
theorem ck_d76 : TT[pg_cp 76]? = some (.code (pg_yn 76) (pg_cd 76) (pg_n 76) (pg_rt 76)) := rfl
set_option maxRecDepth 100000 in
theorem ck_d77 : TT[pg_cp 77]? = some (.code (pg_yn 77) (pg_cd 77) (pg_n 77) (pg_rt 77)) := rfl
set_option maxRecDepth 100000 in
theorem ck_d78 : TT[pg_cp 78]? = some (.code (pg_yn 78) (pg_cd 78) (pg_n 78) (pg_rt 78)) := rfl
set_option maxRecDepth 100000 in
theorem ck_d79 : TT[pg_cp 79]? = some (.code (pg_yn 79) (pg_cd 79) (pg_n 79) (pg_rt 79)) := rfl
set_option maxRecDepth 100000 in
theorem ck_d80 : TT[pg_cp 80]? = some (.code (pg_yn 80) (pg_cd 80) (pg_n 80) (pg_rt 80)) := rfl
set_option maxRecDepth 100000 in
theorem ck_d81 : TT[pg_cp 81]? = some (.code (pg_yn 81) (pg_cd 81) (pg_n 81) (pg_rt 81)) := rfl
set_option maxRecDepth 100000 in
theorem ck_d82 : TT[pg_cp 82]? = some (.code (pg_yn 82) (pg_cd 82) (pg_n 82) (pg_rt 82)) := rfl
set_option maxRecDepth 100000 in
theorem ck_d83 : TT[pg_cp 83]? = some (.code (pg_yn 83) (pg_cd 83) (pg_n 83) (pg_rt 83)) := rfl
set_option maxRecDepth 100000 in
theorem ck_d84 : TT[pg_cp 84]? = some (.code (pg_yn 84) (pg_cd 84) (pg_n 84) (pg_rt 84)) := rfl
set_option maxRecDepth 100000 in
theorem ck_d85 : TT[pg_cp 85]? = some (.code (pg_yn 85) (pg_cd 85) (pg_n 85) (pg_rt 85)) := rfl
set_option maxRecDepth 100000 in
theorem ck_d86 : TT[pg_cp 86]? = some (.code (pg_yn 86) (pg_cd 86) (pg_n 86) (pg_rt 86)) := rfl
set_option maxRecDepth 100000 in
theorem ck_d87 : TT[pg_cp 87]? = some (.code (pg_yn 87) (pg_cd 87) (pg_n 87) (pg_rt 87)) := rfl
set_option maxRecDepth 100000 in
theorem ck_d88 : TT[pg_cp 88]? = some (.code (pg_yn 88) (pg_cd 88) (pg_n 88) (pg_rt 88)) := rfl
set_option maxRecDepth 100000 in
theorem ck_d89 : TT[pg_cp 89]? = some (.code (pg_yn 89) (pg_cd 89) (pg_n 89) (pg_rt 89)) := rfl
set_option maxRecDepth 100000 in
theorem ck_d90 : TT[pg_cp 90]? = some (.code (pg_yn 90) (pg_cd 90) (pg_n 90) (pg_rt 90)) := rfl
set_option maxRecDepth 100000 in
theorem ck_d91 : TT[pg_cp 91]? = some (.code (pg_yn 91) (pg_cd 91) (pg_n 91) (pg_rt 91)) := rfl
set_option maxRecDepth 100000 in
theorem ck_d92 : TT[pg_cp 92]? = some (.code (pg_yn 92) (pg_cd 92) (pg_n 92) (pg_rt 92)) := rfl
set_option maxRecDepth 100000 in
theorem ck_d93 : TT[pg_cp 93]? = some (.codeWith (pg_yn 93) (pg_cd 93) (pg_n 93) (pg_rt 93) (pg_hd 93)) := rfl
set_option maxRecDepth 100000 in
theorem ck_d94 : TT[pg_cp 94]? = some (.code (pg_yn 94) (pg_cd 94) (pg_n 94) (pg_rt 94)) := rfl
set_option maxRecDepth 100000 in
theorem ck_d95 : TT[pg_cp 95]? = some (.codeWith (pg_yn 95) (pg_cd 95) (pg_n 95) (pg_rt 95) (pg_hd 95)) := rfl
set_option maxRecDepth 100000 in
theorem ck_d96 : TT[pg_cp 96]? = some (.code (pg_yn 96) (pg_cd 96) (pg_n 96) (pg_rt 96)) := rfl
set_option maxRecDepth 100000 in
theorem ck_d97 : TT[pg_cp 97]? = some (.codeWith (pg_yn 97) (pg_cd 97) (pg_n 97) (pg_rt 97) (pg_hd 97)) := rfl
set_option maxRecDepth 100000 in
theorem ck_d98 : TT[pg_cp 98]? = some (.code (pg_yn 98) (pg_cd 98) (pg_n 98) (pg_rt 98)) := rfl
set_option maxRecDepth 100000 in
theorem ck_d99 : TT[pg_cp 99]? = some (.codeWith (pg_yn 99) (pg_cd 99) (pg_n 99) (pg_rt 99) (pg_hd 99)) := rfl
set_option maxRecDepth 100000 in
theorem ck_d100 : TT[pg_cp 100]? = some (.code (pg_yn 100) (pg_cd 100) (pg_n 100) (pg_rt 100)) := rfl
set_option maxRecDepth 100000 in
theorem ck_d101 : TT[pg_cp 101]? = some (.code (pg_yn 101) (pg_cd 101) (pg_n 101) (pg_rt 101)) := rfl
set_option maxRecDepth 100000 in
theorem ck_d102 : TT[pg_cp 102]? = some (.code (pg_yn 102) (pg_cd 102) (pg_n 102) (pg_rt 102)) := rfl
set_option maxRecDepth 100000 in
theorem ck_d103 : TT[pg_cp 103]? = some (.code (pg_yn 103) (pg_cd 103) (pg_n 103) (pg_rt 103)) := rfl
set_option maxRecDepth 100000 in
theorem ck_d104 : TT[pg_cp 104]? = some (.code (pg_yn 104) (pg_cd 104) (pg_n 104) (pg_rt 104)) := rfl
set_option maxRecDepth 100000 in
theorem ck_d105 : TT[pg_cp 105]? = some (.code (pg_yn 105) (pg_cd 105) (pg_n 105) (pg_rt 105)) := rfl
set_option maxRecDepth 100000 in
theorem ck_d106 : TT[pg_cp 106]? = some (.code (pg_yn 106) (pg_cd 106) (pg_n 106) (pg_rt 106)) := rfl
set_option maxRecDepth 100000 in
theorem ck_d107 : TT[pg_cp 107]? = some (.code (pg_yn 107) (pg_cd 107) (pg_n 107) (pg_rt 107)) := rfl
set_option maxRecDepth 100000 in
theorem ck_d108 : TT[pg_cp 108]? = some (.code (pg_yn 108) (pg_cd 108) (pg_n 108) (pg_rt 108)) := rfl
set_option maxRecDepth 100000 in
theorem ck_d109 : TT[pg_cp 109]? = some (.code (pg_yn 109) (pg_cd 109) (pg_n 109) (pg_rt 109)) := rfl
set_option maxRecDepth 100000 in
theorem ck_d110 : TT[pg_cp 110]? = some (.code (pg_yn 110) (pg_cd 110) (pg_n 110) (pg_rt 110)) := rfl
set_option maxRecDepth 100000 in
theorem ck_d111 : TT[pg_cp 111]? = some (.code (pg_yn 111) (pg_cd 111) (pg_n 111) (pg_rt 111)) := rfl
set_option maxRecDepth 100000 in
theorem ck_d112 : TT[pg_cp 112]? = some (.code (pg_yn 112) (pg_cd 112) (pg_n 112) (pg_rt 112)) := rfl
set_option maxRecDepth 100000 in
theorem ck_d113 : TT[pg_cp 113]? = some (.code (pg_yn 113) (pg_cd 113) (pg_n 113) (pg_rt 113)) := rfl
set_option maxRecDepth 100000 in
theorem ck_d114 : TT[pg_cp 114]? = some (.code (pg_yn 114) (pg_cd 114) (pg_n 114) (pg_rt 114)) := rfl
set_option maxRecDepth 100000 in
theorem ck_d115 : TT[pg_cp 115]? = some (.code (pg_yn 115) (pg_cd 115) (pg_n 115) (pg_rt 115)) := rfl
set_option maxRecDepth 100000 in
theorem ck_d116 : TT[pg_cp 116]? = some (.code (pg_yn 116) (pg_cd 116) (pg_n 116) (pg_rt 116)) := rfl
set_option maxRecDepth 100000 in
theorem ck_d117 : TT[pg_cp 117]? = some (.code (pg_yn 117) (pg_cd 117) (pg_n 117) (pg_rt 117)) := rfl
set_option maxRecDepth 100000 in
theorem ck_d118 : TT[pg_cp 118]? = some (.code (pg_yn 118) (pg_cd 118) (pg_n 118) (pg_rt 118)) := rfl
set_option maxRecDepth 100000 in
theorem ck_d119 : TT[pg_cp 119]? = some (.code (pg_yn 119) (pg_cd 119) (pg_n 119) (pg_rt 119)) := rfl
set_option maxRecDepth 100000 in
theorem ck_d120 : TT[pg_cp 120]? = some (.code (pg_yn 120) (pg_cd 120) (pg_n 120) (pg_rt 120)) := rfl
set_option maxRecDepth 100000 in
theorem ck_d121 : TT[pg_cp 121]? = some (.code (pg_yn 121) (pg_cd 121) (pg_n 121) (pg_rt 121)) := rfl
set_option maxRecDepth 100000 in
theorem ck_d122 : TT[pg_cp 122]? = some (.code (pg_yn 122) (pg_cd 122) (pg_n 122) (pg_rt 122)) := rfl
set_option maxRecDepth 100000 in
theorem ck_d123 : TT[pg_cp 123]? = some (.code (pg_yn 123) (pg_cd 123) (pg_n 123) (pg_rt 123)) := rfl
set_option maxRecDepth 100000 in
theorem ck_d124 : TT[pg_cp 124]? = some (.code (pg_yn 124) (pg_cd 124) (pg_n 124) (pg_rt 124)) := rfl
set_option maxRecDepth 100000 in
theorem ck_d125 : TT[pg_cp 125]? = some (.code (pg_yn 125) (pg_cd 125) (pg_n 125) (pg_rt 125)) := rfl
set_option maxRecDepth 100000 in
theorem ck_d126 : TT[pg_cp 126]? = some (.code (pg_yn 126) (pg_cd 126) (pg_n 126) (pg_rt 126)) := rfl
set_option maxRecDepth 100000 in
theorem ck_d127 : TT[pg_cp 127]? = some (.code (pg_yn 127) (pg_cd 127) (pg_n 127) (pg_rt 127)) := rfl
set_option maxRecDepth 100000 in
theorem ck_d128 : TT[pg_cp 128]? = some (.code (pg_yn 128) (pg_cd 128) (pg_n 128) (pg_rt 128)) := rfl
set_option maxRecDepth 100000 in
theorem ck_d129 : TT[pg_cp 129]? = some (.code (pg_yn 129) (pg_cd 129) (pg_n 129) (pg_rt 129)) := rfl
set_option maxRecDepth 100000 in
theorem ck_d130 : TT[pg_cp 130]? = some (.code (pg_yn 130) (pg_cd 130) (pg_n 130) (pg_rt 130)) := rfl
set_option maxRecDepth 100000 in
theorem ck_d131 : TT[pg_cp 131]? = some (.code (pg_yn 131) (pg_cd 131) (pg_n 131) (pg_rt 131)) := rfl
set_option maxRecDepth 100000 in
theorem ck_d132 : TT[pg_cp 132]? = some (.code (pg_yn 132) (pg_cd 132) (pg_n 132) (pg_rt 132)) := rfl
set_option maxRecDepth 100000 in
theorem ck_d133 : TT[pg_cp 133]? = some (.code (pg_yn 133) (pg_cd 133) (pg_n 133) (pg_rt 133)) := rfl
set_option maxRecDepth 100000 in
theorem ck_d134 : TT[pg_cp 134]? = some (.code (pg_yn 134) (pg_cd 134) (pg_n 134) (pg_rt 134)) := rfl
set_option maxRecDepth 100000 in
theorem ck_d135 : TT[pg_cp 135]? = some (.code (pg_yn 135) (pg_cd 135) (pg_n 135) (pg_rt 135)) := rfl
set_option maxRecDepth 100000 in
theorem ck_d136 : TT[pg_cp 136]? = some (.code (pg_yn 136) (pg_cd 136) (pg_n 136) (pg_rt 136)) := rfl
set_option maxRecDepth 100000 in
theorem ck_d137 : TT[pg_cp 137]? = some (.code (pg_yn 137) (pg_cd 137) (pg_n 137) (pg_rt 137)) := rfl
set_option maxRecDepth 100000 in
theorem ck_d138 : TT[pg_cp 138]? = some (.code (pg_yn 138) (pg_cd 138) (pg_n 138) (pg_rt 138)) := rfl
set_option maxRecDepth 100000 in
theorem ck_d139 : TT[pg_cp 139]? = some (.code (pg_yn 139) (pg_cd 139) (pg_n 139) (pg_rt 139)) := rfl
set_option maxRecDepth 100000 in
theorem ck_d140 : TT[pg_cp 140]? = some (.code (pg_yn 140) (pg_cd 140) (pg_n 140) (pg_rt 140)) := rfl
set_option maxRecDepth 100000 in
theorem ck_d141 : TT[pg_cp 141]? = some (.code (pg_yn 141) (pg_cd 141) (pg_n 141) (pg_rt 141)) := rfl
set_option maxRecDepth 100000 in
theorem ck_d142 : TT[pg_cp 142]? = some (.code (pg_yn 142) (pg_cd 142) (pg_n 142) (pg_rt 142)) := rfl
set_option maxRecDepth 100000 in
theorem ck_d143 : TT[pg_cp 143]? = some (.code (pg_yn 143) (pg_cd 143) (pg_n 143) (pg_rt 143)) := rfl
set_option maxRecDepth 100000 in
theorem ck_d144 : TT[pg_cp 144]? = some (.code (pg_yn 144) (pg_cd 144) (pg_n 144) (pg_rt 144)) := rfl
set_option maxRecDepth 100000 in
theorem ck_d145 : TT[pg_cp 145]? = some (.code (pg_yn 145) (pg_cd 145) (pg_n 145) (pg_rt 145)) := rfl
set_option maxRecDepth 100000 in
theorem ck_d146 : TT[pg_cp 146]? = some (.code (pg_yn 146) (pg_cd 146) (pg_n 146) (pg_rt 146)) := rfl
set_option maxRecDepth 100000 in
theorem ck_d147 : TT[pg_cp 147]? = some (.code (pg_yn 147) (pg_cd 147) (pg_n 147) (pg_rt 147)) := rfl
set_option maxRecDepth 100000 in
theorem ck_d148 : TT[pg_cp 148]? = some (.code (pg_yn 148) (pg_cd 148) (pg_n 148) (pg_rt 148)) := rfl
set_option maxRecDepth 100000 in
theorem ck_d149 : TT[pg_cp 149]? = some (.code (pg_yn 149) (pg_cd 149) (pg_n 149) (pg_rt 149)) := rfl
set_option maxRecDepth 100000 in
theorem ck_d150 : TT[pg_cp 150]? = some (.code (pg_yn 150) (pg_cd 150) (pg_n 150) (pg_rt 150)) := rfl
set_option maxRecDepth 100000 in
theorem ck_d151 : TT[pg_cp 151]? = some (.code (pg_yn 151) (pg_cd 151) (pg_n 151) (pg_rt 151)) := rfl
set_option maxRecDepth 100000 in
theorem ck_d152 : TT[pg_cp 152]? = some (.code (pg_yn 152) (pg_cd 152) (pg_n 152) (pg_rt 152)) := rfl
set_option maxRecDepth 100000 in
theorem ck_d153 : TT[pg_cp 153]? = some (.code (pg_yn 153) (pg_cd 153) (pg_n 153) (pg_rt 153)) := rfl
set_option maxRecDepth 100000 in
theorem ck_d154 : TT[pg_cp 154]? = some (.code (pg_yn 154) (pg_cd 154) (pg_n 154) (pg_rt 154)) := rfl
set_option maxRecDepth 100000 in
theorem ck_d155 : TT[pg_cp 155]? = some (.code (pg_yn 155) (pg_cd 155) (pg_n 155) (pg_rt 155)) := rfl
set_option maxRecDepth 100000 in
theorem ck_d156 : TT[pg_cp 156]? = some (.code (pg_yn 156) (pg_cd 156) (pg_n 156) (pg_rt 156)) := rfl
set_option maxRecDepth 100000 in
theorem ck_d157 : TT[pg_cp 157]? = some (.code (pg_yn 157) (pg_cd 157) (pg_n 157) (pg_rt 157)) := rfl
set_option maxRecDepth 100000 in
theorem ck_d158 : TT[pg_cp 158]? = some (.code (pg_yn 158) (pg_cd 158) (pg_n 158) (pg_rt 158)) := rfl
set_option maxRecDepth 100000 in
theorem ck_d159 : TT[pg_cp 159]? = some (.code (pg_yn 159) (pg_cd 159) (pg_n 159) (pg_rt 159)) := rfl
set_option maxRecDepth 100000 in
theorem ck_d160 : TT[pg_cp 160]? = some (.code (pg_yn 160) (pg_cd 160) (pg_n 160) (pg_rt 160)) := rfl
set_option maxRecDepth 100000 in
theorem ck_d161 : TT[pg_cp 161]? = some (.code (pg_yn 161) (pg_cd 161) (pg_n 161) (pg_rt 161)) := rfl
set_option maxRecDepth 100000 in
theorem ck_d162 : TT[pg_cp 162]? = some (.code (pg_yn 162) (pg_cd 162) (pg_n 162) (pg_rt 162)) := rfl
set_option maxRecDepth 100000 in
theorem ck_d163 : TT[pg_cp 163]? = some (.code (pg_yn 163) (pg_cd 163) (pg_n 163) (pg_rt 163)) := rfl
set_option maxRecDepth 100000 in
theorem ck_d164 : TT[pg_cp 164]? = some (.code (pg_yn 164) (pg_cd 164) (pg_n 164) (pg_rt 164)) := rfl
set_option maxRecDepth 100000 in
theorem ck_d165 : TT[pg_cp 165]? = some (.code (pg_yn 165) (pg_cd 165) (pg_n 165) (pg_rt 165)) := rfl
set_option maxRecDepth 100000 in
theorem ck_d166 : TT[pg_cp 166]? = some (.code (pg_yn 166) (pg_cd 166) (pg_n 166) (pg_rt 166)) := rfl
theorem ck_Mmax : TT[633]? = some (.code Lib.Math.max.name Lib.Math.max.code 2 (some .int)) ∧ TT[632]? = some (.static Lib.Math.max.name) ∧ TT[92]? = some (.initialized "java/lang/Math") := by decide +kernel
theorem ck_Mmin : TT[277]? = some (.code Lib.Math.min.name Lib.Math.min.code 2 (some .int)) ∧ TT[276]? = some (.static Lib.Math.min.name) ∧ TT[92]? = some (.initialized "java/lang/Math") := by decide +kernel
