theorem mw_900 : (.methodLink RX5 3 objectInit : Cond) ∈ gwL := gw_at 1 (z := tables_1_1) rfl (List.mem_of_getElem? (i := 36) rfl) rfl
theorem mw_901 : (.instanceMethod objectInit : Cond) ∈ gwL := gw_at 1 (z := tables_1_1) rfl (List.mem_of_getElem? (i := 23) rfl) rfl
theorem mw_902 : (.code objectInit ⟨#[0xb1]⟩ 1 none : Cond) ∈ gwL := gw_at 1 (z := tables_1_1) rfl (List.mem_of_getElem? (i := 24) rfl) rfl
theorem mw_903 : (.arrayClass .int : Cond) ∈ gwL := gw_at 1 (z := tables_1_1) rfl (List.mem_of_getElem? (i := 70) rfl) rfl
theorem mw_904 : (.methodLink RX0 5 objectInit : Cond) ∈ gwL := gw_at 1 (z := tables_1_1) rfl (List.mem_of_getElem? (i := 30) rfl) rfl
theorem mw_905 : (.fieldLink RX0 15 "SetAgain$Chair" "stands" "[I" : Cond) ∈ gwL := gw_at 1 (z := tables_1_1) rfl (List.mem_of_getElem? (i := 73) rfl) rfl
theorem mw_906 : (.classLink RX0 18 RX5 : Cond) ∈ gwL := gw_at 1 (z := tables_1_1) rfl (List.mem_of_getElem? (i := 31) rfl) rfl
theorem mw_907 : (.instantiable RX5 10 : Cond) ∈ gwL := gw_at 1 (z := tables_1_1) rfl (List.mem_of_getElem? (i := 32) rfl) rfl
theorem mw_908 : (.code yX5_init cX5_init 1 none : Cond) ∈ gwL := gw_at 1 (z := tables_1_1) rfl (List.mem_of_getElem? (i := 35) rfl) rfl
theorem mw_909 : (.instanceMethod yX5_init : Cond) ∈ gwL := gw_at 1 (z := tables_1_1) rfl (List.mem_of_getElem? (i := 34) rfl) rfl
theorem mw_910 : (.methodLink RX10 3 objectInit : Cond) ∈ gwL := gw_at 1 (z := tables_1_1) rfl (List.mem_of_getElem? (i := 102) rfl) rfl
theorem mw_911 : (.methodLink RX4 3 objectInit : Cond) ∈ gwL := gw_at 1 (z := tables_1_1) rfl (List.mem_of_getElem? (i := 129) rfl) rfl
theorem mw_912 : (.methodLink RX8 3 objectInit : Cond) ∈ gwL := gw_at 1 (z := tables_1_1) rfl (List.mem_of_getElem? (i := 175) rfl) rfl
theorem mw_913 : (.arrayClass .boolean : Cond) ∈ gwL := gw_at 1 (z := tables_1_1) rfl (List.mem_of_getElem? (i := 216) rfl) rfl
theorem mw_914 : (.methodLink RX9 3 objectInit : Cond) ∈ gwL := gw_at 1 (z := tables_1_1) rfl (List.mem_of_getElem? (i := 222) rfl) rfl
theorem mw_915 : (.methodLink RX6 3 objectInit : Cond) ∈ gwL := gw_at 1 (z := tables_1_1) rfl (List.mem_of_getElem? (i := 238) rfl) rfl
theorem mw_916 : (.methodLink RX2 3 objectInit : Cond) ∈ gwL := gw_at 2 (z := tables_1_2) rfl (List.mem_of_getElem? (i := 14) rfl) rfl
theorem mw_917 : (.methodLink RX1 1 objectInit : Cond) ∈ gwL := gw_at 2 (z := tables_1_2) rfl (List.mem_of_getElem? (i := 40) rfl) rfl
theorem mw_918 : (.methodLink RX3 3 objectInit : Cond) ∈ gwL := gw_at 2 (z := tables_1_2) rfl (List.mem_of_getElem? (i := 67) rfl) rfl
theorem mw_919 : (.methodLink RX7 3 objectInit : Cond) ∈ gwL := gw_at 2 (z := tables_1_2) rfl (List.mem_of_getElem? (i := 96) rfl) rfl
theorem mw_920 : (.arrayClass .long : Cond) ∈ gwL := gw_at 2 (z := tables_1_2) rfl (List.mem_of_getElem? (i := 118) rfl) rfl
theorem mw_921 : (.methodLink RX11 3 objectInit : Cond) ∈ gwL := gw_at 1 (z := tables_1_1) rfl (List.mem_of_getElem? (i := 22) rfl) rfl
theorem mw_922 : (.classLink RX11 9 RX0 : Cond) ∈ gwL := gw_at 1 (z := tables_1_1) rfl (List.mem_of_getElem? (i := 25) rfl) rfl
theorem mw_923 : (.instantiable RX0 5 : Cond) ∈ gwL := gw_at 1 (z := tables_1_1) rfl (List.mem_of_getElem? (i := 26) rfl) rfl
theorem mw_924 : (.code yX0_init cX0_init 2 none : Cond) ∈ gwL := gw_at 1 (z := tables_1_1) rfl (List.mem_of_getElem? (i := 29) rfl) rfl
theorem mw_925 : (.methodLink RX11 11 yX0_init : Cond) ∈ gwL := gw_at 1 (z := tables_1_1) rfl (List.mem_of_getElem? (i := 27) rfl) rfl
theorem mw_926 : (.instanceMethod yX0_init : Cond) ∈ gwL := gw_at 1 (z := tables_1_1) rfl (List.mem_of_getElem? (i := 28) rfl) rfl
theorem mw_927 : (.classLink RX11 16 RX10 : Cond) ∈ gwL := gw_at 1 (z := tables_1_1) rfl (List.mem_of_getElem? (i := 97) rfl) rfl
theorem mw_928 : (.instantiable RX10 4 : Cond) ∈ gwL := gw_at 1 (z := tables_1_1) rfl (List.mem_of_getElem? (i := 98) rfl) rfl
theorem mw_929 : (.code yX10_init cX10_init 1 none : Cond) ∈ gwL := gw_at 1 (z := tables_1_1) rfl (List.mem_of_getElem? (i := 101) rfl) rfl
theorem mw_930 : (.instanceMethod yX10_init : Cond) ∈ gwL := gw_at 1 (z := tables_1_1) rfl (List.mem_of_getElem? (i := 100) rfl) rfl
theorem mw_931 : (.classLink RX11 23 RX4 : Cond) ∈ gwL := gw_at 1 (z := tables_1_1) rfl (List.mem_of_getElem? (i := 124) rfl) rfl
theorem mw_932 : (.instantiable RX4 11 : Cond) ∈ gwL := gw_at 1 (z := tables_1_1) rfl (List.mem_of_getElem? (i := 125) rfl) rfl
theorem mw_933 : (.code yX4_init cX4_init 3 none : Cond) ∈ gwL := gw_at 1 (z := tables_1_1) rfl (List.mem_of_getElem? (i := 128) rfl) rfl
theorem mw_934 : (.methodLink RX11 25 yX4_init : Cond) ∈ gwL := gw_at 1 (z := tables_1_1) rfl (List.mem_of_getElem? (i := 126) rfl) rfl
theorem mw_935 : (.instanceMethod yX4_init : Cond) ∈ gwL := gw_at 1 (z := tables_1_1) rfl (List.mem_of_getElem? (i := 127) rfl) rfl
theorem mw_936 : (.classLink RX11 32 RX8 : Cond) ∈ gwL := gw_at 1 (z := tables_1_1) rfl (List.mem_of_getElem? (i := 170) rfl) rfl
theorem mw_937 : (.instantiable RX8 13 : Cond) ∈ gwL := gw_at 1 (z := tables_1_1) rfl (List.mem_of_getElem? (i := 171) rfl) rfl
theorem mw_938 : (.code yX8_init cX8_init 3 none : Cond) ∈ gwL := gw_at 1 (z := tables_1_1) rfl (List.mem_of_getElem? (i := 174) rfl) rfl
theorem mw_939 : (.methodLink RX11 34 yX8_init : Cond) ∈ gwL := gw_at 1 (z := tables_1_1) rfl (List.mem_of_getElem? (i := 172) rfl) rfl
theorem mw_940 : (.instanceMethod yX8_init : Cond) ∈ gwL := gw_at 1 (z := tables_1_1) rfl (List.mem_of_getElem? (i := 173) rfl) rfl
theorem mw_941 : (.classLink RX11 39 RX9 : Cond) ∈ gwL := gw_at 1 (z := tables_1_1) rfl (List.mem_of_getElem? (i := 217) rfl) rfl
theorem mw_942 : (.instantiable RX9 3 : Cond) ∈ gwL := gw_at 1 (z := tables_1_1) rfl (List.mem_of_getElem? (i := 218) rfl) rfl
theorem mw_943 : (.code yX9_init cX9_init 3 none : Cond) ∈ gwL := gw_at 1 (z := tables_1_1) rfl (List.mem_of_getElem? (i := 221) rfl) rfl
theorem mw_944 : (.methodLink RX11 41 yX9_init : Cond) ∈ gwL := gw_at 1 (z := tables_1_1) rfl (List.mem_of_getElem? (i := 219) rfl) rfl
theorem mw_945 : (.instanceMethod yX9_init : Cond) ∈ gwL := gw_at 1 (z := tables_1_1) rfl (List.mem_of_getElem? (i := 220) rfl) rfl
theorem mw_946 : (.classLink RX11 46 RX6 : Cond) ∈ gwL := gw_at 1 (z := tables_1_1) rfl (List.mem_of_getElem? (i := 233) rfl) rfl
theorem mw_947 : (.instantiable RX6 3 : Cond) ∈ gwL := gw_at 1 (z := tables_1_1) rfl (List.mem_of_getElem? (i := 234) rfl) rfl
theorem mw_948 : (.code yX6_init cX6_init 2 none : Cond) ∈ gwL := gw_at 1 (z := tables_1_1) rfl (List.mem_of_getElem? (i := 237) rfl) rfl
theorem mw_949 : (.methodLink RX11 48 yX6_init : Cond) ∈ gwL := gw_at 1 (z := tables_1_1) rfl (List.mem_of_getElem? (i := 235) rfl) rfl
theorem mw_950 : (.instanceMethod yX6_init : Cond) ∈ gwL := gw_at 1 (z := tables_1_1) rfl (List.mem_of_getElem? (i := 236) rfl) rfl
theorem mw_951 : (.classLink RX11 55 RX2 : Cond) ∈ gwL := gw_at 2 (z := tables_1_2) rfl (List.mem_of_getElem? (i := 9) rfl) rfl
theorem mw_952 : (.instantiable RX2 6 : Cond) ∈ gwL := gw_at 2 (z := tables_1_2) rfl (List.mem_of_getElem? (i := 10) rfl) rfl
theorem mw_953 : (.code yX2_init cX2_init 3 none : Cond) ∈ gwL := gw_at 2 (z := tables_1_2) rfl (List.mem_of_getElem? (i := 13) rfl) rfl
theorem mw_954 : (.methodLink RX11 57 yX2_init : Cond) ∈ gwL := gw_at 2 (z := tables_1_2) rfl (List.mem_of_getElem? (i := 11) rfl) rfl
theorem mw_955 : (.instanceMethod yX2_init : Cond) ∈ gwL := gw_at 2 (z := tables_1_2) rfl (List.mem_of_getElem? (i := 12) rfl) rfl
theorem mw_956 : (.classLink RX11 64 RX1 : Cond) ∈ gwL := gw_at 2 (z := tables_1_2) rfl (List.mem_of_getElem? (i := 35) rfl) rfl
theorem mw_957 : (.instantiable RX1 5 : Cond) ∈ gwL := gw_at 2 (z := tables_1_2) rfl (List.mem_of_getElem? (i := 36) rfl) rfl
theorem mw_958 : (.code yX1_init cX1_init 1 none : Cond) ∈ gwL := gw_at 2 (z := tables_1_2) rfl (List.mem_of_getElem? (i := 39) rfl) rfl
theorem mw_959 : (.instanceMethod yX1_init : Cond) ∈ gwL := gw_at 2 (z := tables_1_2) rfl (List.mem_of_getElem? (i := 38) rfl) rfl
theorem mw_960 : (.classLink RX11 71 RX3 : Cond) ∈ gwL := gw_at 2 (z := tables_1_2) rfl (List.mem_of_getElem? (i := 62) rfl) rfl
theorem mw_961 : (.instantiable RX3 6 : Cond) ∈ gwL := gw_at 2 (z := tables_1_2) rfl (List.mem_of_getElem? (i := 63) rfl) rfl
theorem mw_962 : (.code yX3_init cX3_init 1 none : Cond) ∈ gwL := gw_at 2 (z := tables_1_2) rfl (List.mem_of_getElem? (i := 66) rfl) rfl
theorem mw_963 : (.instanceMethod yX3_init : Cond) ∈ gwL := gw_at 2 (z := tables_1_2) rfl (List.mem_of_getElem? (i := 65) rfl) rfl
theorem mw_964 : (.classLink RX11 78 RX7 : Cond) ∈ gwL := gw_at 2 (z := tables_1_2) rfl (List.mem_of_getElem? (i := 90) rfl) rfl
theorem mw_965 : (.instantiable RX7 4 : Cond) ∈ gwL := gw_at 2 (z := tables_1_2) rfl (List.mem_of_getElem? (i := 92) rfl) rfl
theorem mw_966 : (.code yX7_init cX7_init 1 none : Cond) ∈ gwL := gw_at 2 (z := tables_1_2) rfl (List.mem_of_getElem? (i := 95) rfl) rfl
theorem mw_967 : (.instanceMethod yX7_init : Cond) ∈ gwL := gw_at 2 (z := tables_1_2) rfl (List.mem_of_getElem? (i := 94) rfl) rfl
theorem mw_968 : (.methodLink RX12 3 objectInit : Cond) ∈ gwL := gw_at 5 (z := tables_1_5) rfl (List.mem_of_getElem? (i := 61) rfl) rfl
theorem mw_969 : (.code yX11_sitter cX11_sitter 3 (some .int) : Cond) ∈ gwL := gw_at 2 (z := tables_1_2) rfl (List.mem_of_getElem? (i := 153) rfl) rfl
theorem mw_970 : (.methodLink RL 13 yX11_sitter : Cond) ∈ gwL := gw_at 2 (z := tables_1_2) rfl (List.mem_of_getElem? (i := 150) rfl) rfl
theorem mw_971 : (.instanceMethod yX11_sitter : Cond) ∈ gwL := gw_at 2 (z := tables_1_2) rfl (List.mem_of_getElem? (i := 151) rfl) rfl
theorem mw_972 : (.selects RX11 yX11_sitter yX11_sitter : Cond) ∈ gwL := gw_at 2 (z := tables_1_2) rfl (List.mem_of_getElem? (i := 152) rfl) rfl
theorem mw_973 : (.code yX12_sitter cX12_sitter 3 (some .int) : Cond) ∈ gwL := gw_at 5 (z := tables_1_5) rfl (List.mem_of_getElem? (i := 239) rfl) rfl
theorem mw_974 : (.methodLink RL 17 yX12_sitter : Cond) ∈ gwL := gw_at 5 (z := tables_1_5) rfl (List.mem_of_getElem? (i := 236) rfl) rfl
theorem mw_975 : (.instanceMethod yX12_sitter : Cond) ∈ gwL := gw_at 5 (z := tables_1_5) rfl (List.mem_of_getElem? (i := 237) rfl) rfl
theorem mw_976 : (.selects RX12 yX12_sitter yX12_sitter : Cond) ∈ gwL := gw_at 5 (z := tables_1_5) rfl (List.mem_of_getElem? (i := 238) rfl) rfl
theorem mw_977 : (.code yX11_sitters cX11_sitters 5 (some .int) : Cond) ∈ gwL := gw_at 2 (z := tables_1_2) rfl (List.mem_of_getElem? (i := 175) rfl) rfl
theorem mw_978 : (.methodLink RL 18 yX11_sitters : Cond) ∈ gwL := gw_at 2 (z := tables_1_2) rfl (List.mem_of_getElem? (i := 172) rfl) rfl
theorem mw_979 : (.instanceMethod yX11_sitters : Cond) ∈ gwL := gw_at 2 (z := tables_1_2) rfl (List.mem_of_getElem? (i := 173) rfl) rfl
theorem mw_980 : (.selects RX11 yX11_sitters yX11_sitters : Cond) ∈ gwL := gw_at 2 (z := tables_1_2) rfl (List.mem_of_getElem? (i := 174) rfl) rfl
theorem mw_981 : (.code yX12_sitters cX12_sitters 7 (some .int) : Cond) ∈ gwL := gw_at 6 (z := tables_1_6) rfl (List.mem_of_getElem? (i := 15) rfl) rfl
theorem mw_982 : (.methodLink RL 22 yX12_sitters : Cond) ∈ gwL := gw_at 6 (z := tables_1_6) rfl (List.mem_of_getElem? (i := 12) rfl) rfl
theorem mw_983 : (.instanceMethod yX12_sitters : Cond) ∈ gwL := gw_at 6 (z := tables_1_6) rfl (List.mem_of_getElem? (i := 13) rfl) rfl
theorem mw_984 : (.selects RX12 yX12_sitters yX12_sitters : Cond) ∈ gwL := gw_at 6 (z := tables_1_6) rfl (List.mem_of_getElem? (i := 14) rfl) rfl
theorem mw_985 : (.code yX11_mend cX11_mend 6 (some .int) : Cond) ∈ gwL := gw_at 2 (z := tables_1_2) rfl (List.mem_of_getElem? (i := 194) rfl) rfl
theorem mw_986 : (.methodLink RL 23 yX11_mend : Cond) ∈ gwL := gw_at 2 (z := tables_1_2) rfl (List.mem_of_getElem? (i := 191) rfl) rfl
theorem mw_987 : (.instanceMethod yX11_mend : Cond) ∈ gwL := gw_at 2 (z := tables_1_2) rfl (List.mem_of_getElem? (i := 192) rfl) rfl
theorem mw_988 : (.selects RX11 yX11_mend yX11_mend : Cond) ∈ gwL := gw_at 2 (z := tables_1_2) rfl (List.mem_of_getElem? (i := 193) rfl) rfl
theorem mw_989 : (.code yX12_mend cX12_mend 5 (some .int) : Cond) ∈ gwL := gw_at 6 (z := tables_1_6) rfl (List.mem_of_getElem? (i := 24) rfl) rfl
theorem mw_990 : (.methodLink RL 26 yX12_mend : Cond) ∈ gwL := gw_at 6 (z := tables_1_6) rfl (List.mem_of_getElem? (i := 21) rfl) rfl
theorem mw_991 : (.instanceMethod yX12_mend : Cond) ∈ gwL := gw_at 6 (z := tables_1_6) rfl (List.mem_of_getElem? (i := 22) rfl) rfl
theorem mw_992 : (.selects RX12 yX12_mend yX12_mend : Cond) ∈ gwL := gw_at 6 (z := tables_1_6) rfl (List.mem_of_getElem? (i := 23) rfl) rfl
theorem mw_993 : (.code yX11_of cX11_of 4 (some .int) : Cond) ∈ gwL := gw_at 2 (z := tables_1_2) rfl (List.mem_of_getElem? (i := 217) rfl) rfl
theorem mw_994 : (.methodLink RL 27 yX11_of : Cond) ∈ gwL := gw_at 2 (z := tables_1_2) rfl (List.mem_of_getElem? (i := 214) rfl) rfl
theorem mw_995 : (.instanceMethod yX11_of : Cond) ∈ gwL := gw_at 2 (z := tables_1_2) rfl (List.mem_of_getElem? (i := 215) rfl) rfl
theorem mw_996 : (.selects RX11 yX11_of yX11_of : Cond) ∈ gwL := gw_at 2 (z := tables_1_2) rfl (List.mem_of_getElem? (i := 216) rfl) rfl
theorem mw_997 : (.code yX12_of cX12_of 4 (some .int) : Cond) ∈ gwL := gw_at 6 (z := tables_1_6) rfl (List.mem_of_getElem? (i := 49) rfl) rfl
theorem mw_998 : (.methodLink RL 30 yX12_of : Cond) ∈ gwL := gw_at 6 (z := tables_1_6) rfl (List.mem_of_getElem? (i := 46) rfl) rfl
theorem mw_999 : (.instanceMethod yX12_of : Cond) ∈ gwL := gw_at 6 (z := tables_1_6) rfl (List.mem_of_getElem? (i := 47) rfl) rfl
theorem mw_1000 : (.selects RX12 yX12_of yX12_of : Cond) ∈ gwL := gw_at 6 (z := tables_1_6) rfl (List.mem_of_getElem? (i := 48) rfl) rfl
theorem mw_1001 : (.code yX11_feed cX11_feed 2 (some .int) : Cond) ∈ gwL := gw_at 2 (z := tables_1_2) rfl (List.mem_of_getElem? (i := 224) rfl) rfl
theorem mw_1002 : (.methodLink RL 31 yX11_feed : Cond) ∈ gwL := gw_at 2 (z := tables_1_2) rfl (List.mem_of_getElem? (i := 221) rfl) rfl
theorem mw_1003 : (.instanceMethod yX11_feed : Cond) ∈ gwL := gw_at 2 (z := tables_1_2) rfl (List.mem_of_getElem? (i := 222) rfl) rfl
theorem mw_1004 : (.selects RX11 yX11_feed yX11_feed : Cond) ∈ gwL := gw_at 2 (z := tables_1_2) rfl (List.mem_of_getElem? (i := 223) rfl) rfl
theorem mw_1005 : (.code yX12_feed cX12_feed 2 (some .int) : Cond) ∈ gwL := gw_at 6 (z := tables_1_6) rfl (List.mem_of_getElem? (i := 53) rfl) rfl
theorem mw_1006 : (.methodLink RL 35 yX12_feed : Cond) ∈ gwL := gw_at 6 (z := tables_1_6) rfl (List.mem_of_getElem? (i := 50) rfl) rfl
theorem mw_1007 : (.instanceMethod yX12_feed : Cond) ∈ gwL := gw_at 6 (z := tables_1_6) rfl (List.mem_of_getElem? (i := 51) rfl) rfl
theorem mw_1008 : (.selects RX12 yX12_feed yX12_feed : Cond) ∈ gwL := gw_at 6 (z := tables_1_6) rfl (List.mem_of_getElem? (i := 52) rfl) rfl
theorem mw_1009 : (.code yX11_law cX11_law 2 (some .int) : Cond) ∈ gwL := gw_at 2 (z := tables_1_2) rfl (List.mem_of_getElem? (i := 232) rfl) rfl
theorem mw_1010 : (.methodLink RL 36 yX11_law : Cond) ∈ gwL := gw_at 2 (z := tables_1_2) rfl (List.mem_of_getElem? (i := 229) rfl) rfl
theorem mw_1011 : (.instanceMethod yX11_law : Cond) ∈ gwL := gw_at 2 (z := tables_1_2) rfl (List.mem_of_getElem? (i := 230) rfl) rfl
theorem mw_1012 : (.selects RX11 yX11_law yX11_law : Cond) ∈ gwL := gw_at 2 (z := tables_1_2) rfl (List.mem_of_getElem? (i := 231) rfl) rfl
theorem mw_1013 : (.code yX12_law cX12_law 4 (some .int) : Cond) ∈ gwL := gw_at 6 (z := tables_1_6) rfl (List.mem_of_getElem? (i := 58) rfl) rfl
theorem mw_1014 : (.methodLink RL 40 yX12_law : Cond) ∈ gwL := gw_at 6 (z := tables_1_6) rfl (List.mem_of_getElem? (i := 55) rfl) rfl
theorem mw_1015 : (.instanceMethod yX12_law : Cond) ∈ gwL := gw_at 6 (z := tables_1_6) rfl (List.mem_of_getElem? (i := 56) rfl) rfl
theorem mw_1016 : (.selects RX12 yX12_law yX12_law : Cond) ∈ gwL := gw_at 6 (z := tables_1_6) rfl (List.mem_of_getElem? (i := 57) rfl) rfl
theorem mw_1017 : (.code yX11_loss cX11_loss 4 (some .int) : Cond) ∈ gwL := gw_at 3 (z := tables_1_3) rfl (List.mem_of_getElem? (i := 63) rfl) rfl
theorem mw_1018 : (.methodLink RL 41 yX11_loss : Cond) ∈ gwL := gw_at 3 (z := tables_1_3) rfl (List.mem_of_getElem? (i := 60) rfl) rfl
theorem mw_1019 : (.instanceMethod yX11_loss : Cond) ∈ gwL := gw_at 3 (z := tables_1_3) rfl (List.mem_of_getElem? (i := 61) rfl) rfl
theorem mw_1020 : (.selects RX11 yX11_loss yX11_loss : Cond) ∈ gwL := gw_at 3 (z := tables_1_3) rfl (List.mem_of_getElem? (i := 62) rfl) rfl
theorem mw_1021 : (.code yX12_loss cX12_loss 4 (some .int) : Cond) ∈ gwL := gw_at 6 (z := tables_1_6) rfl (List.mem_of_getElem? (i := 105) rfl) rfl
theorem mw_1022 : (.methodLink RL 44 yX12_loss : Cond) ∈ gwL := gw_at 6 (z := tables_1_6) rfl (List.mem_of_getElem? (i := 102) rfl) rfl
theorem mw_1023 : (.instanceMethod yX12_loss : Cond) ∈ gwL := gw_at 6 (z := tables_1_6) rfl (List.mem_of_getElem? (i := 103) rfl) rfl
theorem mw_1024 : (.selects RX12 yX12_loss yX12_loss : Cond) ∈ gwL := gw_at 6 (z := tables_1_6) rfl (List.mem_of_getElem? (i := 104) rfl) rfl
theorem mw_1025 : (.code yX11_never cX11_never 5 (some .int) : Cond) ∈ gwL := gw_at 3 (z := tables_1_3) rfl (List.mem_of_getElem? (i := 102) rfl) rfl
theorem mw_1026 : (.methodLink RL 45 yX11_never : Cond) ∈ gwL := gw_at 3 (z := tables_1_3) rfl (List.mem_of_getElem? (i := 99) rfl) rfl
theorem mw_1027 : (.instanceMethod yX11_never : Cond) ∈ gwL := gw_at 3 (z := tables_1_3) rfl (List.mem_of_getElem? (i := 100) rfl) rfl
theorem mw_1028 : (.selects RX11 yX11_never yX11_never : Cond) ∈ gwL := gw_at 3 (z := tables_1_3) rfl (List.mem_of_getElem? (i := 101) rfl) rfl
theorem mw_1029 : (.code yX12_never cX12_never 4 (some .int) : Cond) ∈ gwL := gw_at 6 (z := tables_1_6) rfl (List.mem_of_getElem? (i := 120) rfl) rfl
theorem mw_1030 : (.methodLink RL 48 yX12_never : Cond) ∈ gwL := gw_at 6 (z := tables_1_6) rfl (List.mem_of_getElem? (i := 117) rfl) rfl
theorem mw_1031 : (.instanceMethod yX12_never : Cond) ∈ gwL := gw_at 6 (z := tables_1_6) rfl (List.mem_of_getElem? (i := 118) rfl) rfl
theorem mw_1032 : (.selects RX12 yX12_never yX12_never : Cond) ∈ gwL := gw_at 6 (z := tables_1_6) rfl (List.mem_of_getElem? (i := 119) rfl) rfl
theorem mw_1033 : (.code yX11_best cX11_best 5 (some .int) : Cond) ∈ gwL := gw_at 3 (z := tables_1_3) rfl (List.mem_of_getElem? (i := 124) rfl) rfl
theorem mw_1034 : (.methodLink RL 49 yX11_best : Cond) ∈ gwL := gw_at 3 (z := tables_1_3) rfl (List.mem_of_getElem? (i := 121) rfl) rfl
theorem mw_1035 : (.instanceMethod yX11_best : Cond) ∈ gwL := gw_at 3 (z := tables_1_3) rfl (List.mem_of_getElem? (i := 122) rfl) rfl
theorem mw_1036 : (.selects RX11 yX11_best yX11_best : Cond) ∈ gwL := gw_at 3 (z := tables_1_3) rfl (List.mem_of_getElem? (i := 123) rfl) rfl
theorem mw_1037 : (.code yX12_best cX12_best 8 (some .int) : Cond) ∈ gwL := gw_at 6 (z := tables_1_6) rfl (List.mem_of_getElem? (i := 140) rfl) rfl
theorem mw_1038 : (.methodLink RL 52 yX12_best : Cond) ∈ gwL := gw_at 6 (z := tables_1_6) rfl (List.mem_of_getElem? (i := 137) rfl) rfl
theorem mw_1039 : (.instanceMethod yX12_best : Cond) ∈ gwL := gw_at 6 (z := tables_1_6) rfl (List.mem_of_getElem? (i := 138) rfl) rfl
theorem mw_1040 : (.selects RX12 yX12_best yX12_best : Cond) ∈ gwL := gw_at 6 (z := tables_1_6) rfl (List.mem_of_getElem? (i := 139) rfl) rfl
theorem mw_1041 : (.code yX11_middle cX11_middle 4 (some .int) : Cond) ∈ gwL := gw_at 3 (z := tables_1_3) rfl (List.mem_of_getElem? (i := 138) rfl) rfl
theorem mw_1042 : (.methodLink RL 53 yX11_middle : Cond) ∈ gwL := gw_at 3 (z := tables_1_3) rfl (List.mem_of_getElem? (i := 135) rfl) rfl
theorem mw_1043 : (.instanceMethod yX11_middle : Cond) ∈ gwL := gw_at 3 (z := tables_1_3) rfl (List.mem_of_getElem? (i := 136) rfl) rfl
theorem mw_1044 : (.selects RX11 yX11_middle yX11_middle : Cond) ∈ gwL := gw_at 3 (z := tables_1_3) rfl (List.mem_of_getElem? (i := 137) rfl) rfl
theorem mw_1045 : (.code yX12_middle cX12_middle 5 (some .int) : Cond) ∈ gwL := gw_at 6 (z := tables_1_6) rfl (List.mem_of_getElem? (i := 153) rfl) rfl
theorem mw_1046 : (.methodLink RL 56 yX12_middle : Cond) ∈ gwL := gw_at 6 (z := tables_1_6) rfl (List.mem_of_getElem? (i := 150) rfl) rfl
theorem mw_1047 : (.instanceMethod yX12_middle : Cond) ∈ gwL := gw_at 6 (z := tables_1_6) rfl (List.mem_of_getElem? (i := 151) rfl) rfl
theorem mw_1048 : (.selects RX12 yX12_middle yX12_middle : Cond) ∈ gwL := gw_at 6 (z := tables_1_6) rfl (List.mem_of_getElem? (i := 152) rfl) rfl
theorem mw_1049 : (.code yX11_shifts cX11_shifts 5 (some .int) : Cond) ∈ gwL := gw_at 3 (z := tables_1_3) rfl (List.mem_of_getElem? (i := 151) rfl) rfl
theorem mw_1050 : (.methodLink RL 57 yX11_shifts : Cond) ∈ gwL := gw_at 3 (z := tables_1_3) rfl (List.mem_of_getElem? (i := 148) rfl) rfl
theorem mw_1051 : (.instanceMethod yX11_shifts : Cond) ∈ gwL := gw_at 3 (z := tables_1_3) rfl (List.mem_of_getElem? (i := 149) rfl) rfl
theorem mw_1052 : (.selects RX11 yX11_shifts yX11_shifts : Cond) ∈ gwL := gw_at 3 (z := tables_1_3) rfl (List.mem_of_getElem? (i := 150) rfl) rfl
theorem mw_1053 : (.code yX12_shifts cX12_shifts 10 (some .int) : Cond) ∈ gwL := gw_at 6 (z := tables_1_6) rfl (List.mem_of_getElem? (i := 169) rfl) rfl
theorem mw_1054 : (.methodLink RL 60 yX12_shifts : Cond) ∈ gwL := gw_at 6 (z := tables_1_6) rfl (List.mem_of_getElem? (i := 166) rfl) rfl
theorem mw_1055 : (.instanceMethod yX12_shifts : Cond) ∈ gwL := gw_at 6 (z := tables_1_6) rfl (List.mem_of_getElem? (i := 167) rfl) rfl
theorem mw_1056 : (.selects RX12 yX12_shifts yX12_shifts : Cond) ∈ gwL := gw_at 6 (z := tables_1_6) rfl (List.mem_of_getElem? (i := 168) rfl) rfl
theorem mw_1057 : (.code yX11_once cX11_once 5 (some .int) : Cond) ∈ gwL := gw_at 3 (z := tables_1_3) rfl (List.mem_of_getElem? (i := 186) rfl) rfl
theorem mw_1058 : (.methodLink RL 61 yX11_once : Cond) ∈ gwL := gw_at 3 (z := tables_1_3) rfl (List.mem_of_getElem? (i := 183) rfl) rfl
theorem mw_1059 : (.instanceMethod yX11_once : Cond) ∈ gwL := gw_at 3 (z := tables_1_3) rfl (List.mem_of_getElem? (i := 184) rfl) rfl
theorem mw_1060 : (.selects RX11 yX11_once yX11_once : Cond) ∈ gwL := gw_at 3 (z := tables_1_3) rfl (List.mem_of_getElem? (i := 185) rfl) rfl
theorem mw_1061 : (.code yX12_once cX12_once 13 (some .int) : Cond) ∈ gwL := gw_at 6 (z := tables_1_6) rfl (List.mem_of_getElem? (i := 185) rfl) rfl
theorem mw_1062 : (.methodLink RL 64 yX12_once : Cond) ∈ gwL := gw_at 6 (z := tables_1_6) rfl (List.mem_of_getElem? (i := 182) rfl) rfl
theorem mw_1063 : (.instanceMethod yX12_once : Cond) ∈ gwL := gw_at 6 (z := tables_1_6) rfl (List.mem_of_getElem? (i := 183) rfl) rfl
theorem mw_1064 : (.selects RX12 yX12_once yX12_once : Cond) ∈ gwL := gw_at 6 (z := tables_1_6) rfl (List.mem_of_getElem? (i := 184) rfl) rfl
theorem mw_1065 : (.code yX11_week cX11_week 4 (some .int) : Cond) ∈ gwL := gw_at 3 (z := tables_1_3) rfl (List.mem_of_getElem? (i := 194) rfl) rfl
theorem mw_1066 : (.methodLink RL 65 yX11_week : Cond) ∈ gwL := gw_at 3 (z := tables_1_3) rfl (List.mem_of_getElem? (i := 191) rfl) rfl
theorem mw_1067 : (.instanceMethod yX11_week : Cond) ∈ gwL := gw_at 3 (z := tables_1_3) rfl (List.mem_of_getElem? (i := 192) rfl) rfl
theorem mw_1068 : (.selects RX11 yX11_week yX11_week : Cond) ∈ gwL := gw_at 3 (z := tables_1_3) rfl (List.mem_of_getElem? (i := 193) rfl) rfl
theorem mw_1069 : (.code yX12_week cX12_week 4 (some .int) : Cond) ∈ gwL := gw_at 6 (z := tables_1_6) rfl (List.mem_of_getElem? (i := 189) rfl) rfl
theorem mw_1070 : (.methodLink RL 68 yX12_week : Cond) ∈ gwL := gw_at 6 (z := tables_1_6) rfl (List.mem_of_getElem? (i := 186) rfl) rfl
theorem mw_1071 : (.instanceMethod yX12_week : Cond) ∈ gwL := gw_at 6 (z := tables_1_6) rfl (List.mem_of_getElem? (i := 187) rfl) rfl
theorem mw_1072 : (.selects RX12 yX12_week yX12_week : Cond) ∈ gwL := gw_at 6 (z := tables_1_6) rfl (List.mem_of_getElem? (i := 188) rfl) rfl
theorem mw_1073 : (.code yX11_stands cX11_stands 5 (some .int) : Cond) ∈ gwL := gw_at 4 (z := tables_1_4) rfl (List.mem_of_getElem? (i := 8) rfl) rfl
theorem mw_1074 : (.methodLink RL 69 yX11_stands : Cond) ∈ gwL := gw_at 4 (z := tables_1_4) rfl (List.mem_of_getElem? (i := 5) rfl) rfl
theorem mw_1075 : (.instanceMethod yX11_stands : Cond) ∈ gwL := gw_at 4 (z := tables_1_4) rfl (List.mem_of_getElem? (i := 6) rfl) rfl
theorem mw_1076 : (.selects RX11 yX11_stands yX11_stands : Cond) ∈ gwL := gw_at 4 (z := tables_1_4) rfl (List.mem_of_getElem? (i := 7) rfl) rfl
theorem mw_1077 : (.code yX12_stands cX12_stands 4 (some .int) : Cond) ∈ gwL := gw_at 6 (z := tables_1_6) rfl (List.mem_of_getElem? (i := 220) rfl) rfl
theorem mw_1078 : (.methodLink RL 72 yX12_stands : Cond) ∈ gwL := gw_at 6 (z := tables_1_6) rfl (List.mem_of_getElem? (i := 217) rfl) rfl
theorem mw_1079 : (.instanceMethod yX12_stands : Cond) ∈ gwL := gw_at 6 (z := tables_1_6) rfl (List.mem_of_getElem? (i := 218) rfl) rfl
theorem mw_1080 : (.selects RX12 yX12_stands yX12_stands : Cond) ∈ gwL := gw_at 6 (z := tables_1_6) rfl (List.mem_of_getElem? (i := 219) rfl) rfl
theorem mw_1081 : (.code yX11_pays cX11_pays 5 (some .int) : Cond) ∈ gwL := gw_at 4 (z := tables_1_4) rfl (List.mem_of_getElem? (i := 12) rfl) rfl
theorem mw_1082 : (.methodLink RL 73 yX11_pays : Cond) ∈ gwL := gw_at 4 (z := tables_1_4) rfl (List.mem_of_getElem? (i := 9) rfl) rfl
theorem mw_1083 : (.instanceMethod yX11_pays : Cond) ∈ gwL := gw_at 4 (z := tables_1_4) rfl (List.mem_of_getElem? (i := 10) rfl) rfl
theorem mw_1084 : (.selects RX11 yX11_pays yX11_pays : Cond) ∈ gwL := gw_at 4 (z := tables_1_4) rfl (List.mem_of_getElem? (i := 11) rfl) rfl
theorem mw_1085 : (.code yX12_pays cX12_pays 7 (some .int) : Cond) ∈ gwL := gw_at 6 (z := tables_1_6) rfl (List.mem_of_getElem? (i := 224) rfl) rfl
theorem mw_1086 : (.methodLink RL 76 yX12_pays : Cond) ∈ gwL := gw_at 6 (z := tables_1_6) rfl (List.mem_of_getElem? (i := 221) rfl) rfl
theorem mw_1087 : (.instanceMethod yX12_pays : Cond) ∈ gwL := gw_at 6 (z := tables_1_6) rfl (List.mem_of_getElem? (i := 222) rfl) rfl
theorem mw_1088 : (.selects RX12 yX12_pays yX12_pays : Cond) ∈ gwL := gw_at 6 (z := tables_1_6) rfl (List.mem_of_getElem? (i := 223) rfl) rfl
theorem mw_1089 : (.code yX11_memories cX11_memories 5 (some .int) : Cond) ∈ gwL := gw_at 4 (z := tables_1_4) rfl (List.mem_of_getElem? (i := 21) rfl) rfl
theorem mw_1090 : (.methodLink RL 77 yX11_memories : Cond) ∈ gwL := gw_at 4 (z := tables_1_4) rfl (List.mem_of_getElem? (i := 18) rfl) rfl
theorem mw_1091 : (.instanceMethod yX11_memories : Cond) ∈ gwL := gw_at 4 (z := tables_1_4) rfl (List.mem_of_getElem? (i := 19) rfl) rfl
theorem mw_1092 : (.selects RX11 yX11_memories yX11_memories : Cond) ∈ gwL := gw_at 4 (z := tables_1_4) rfl (List.mem_of_getElem? (i := 20) rfl) rfl
theorem mw_1093 : (.code yX12_memories cX12_memories 8 (some .int) : Cond) ∈ gwL := gw_at 6 (z := tables_1_6) rfl (List.mem_of_getElem? (i := 228) rfl) rfl
theorem mw_1094 : (.methodLink RL 80 yX12_memories : Cond) ∈ gwL := gw_at 6 (z := tables_1_6) rfl (List.mem_of_getElem? (i := 225) rfl) rfl
theorem mw_1095 : (.instanceMethod yX12_memories : Cond) ∈ gwL := gw_at 6 (z := tables_1_6) rfl (List.mem_of_getElem? (i := 226) rfl) rfl
theorem mw_1096 : (.selects RX12 yX12_memories yX12_memories : Cond) ∈ gwL := gw_at 6 (z := tables_1_6) rfl (List.mem_of_getElem? (i := 227) rfl) rfl
theorem mw_1097 : (.code yX11_marked cX11_marked 3 (some .int) : Cond) ∈ gwL := gw_at 4 (z := tables_1_4) rfl (List.mem_of_getElem? (i := 39) rfl) rfl
theorem mw_1098 : (.methodLink RL 81 yX11_marked : Cond) ∈ gwL := gw_at 4 (z := tables_1_4) rfl (List.mem_of_getElem? (i := 36) rfl) rfl
theorem mw_1099 : (.instanceMethod yX11_marked : Cond) ∈ gwL := gw_at 4 (z := tables_1_4) rfl (List.mem_of_getElem? (i := 37) rfl) rfl
theorem mw_1100 : (.selects RX11 yX11_marked yX11_marked : Cond) ∈ gwL := gw_at 4 (z := tables_1_4) rfl (List.mem_of_getElem? (i := 38) rfl) rfl
theorem mw_1101 : (.code yX12_marked cX12_marked 4 (some .int) : Cond) ∈ gwL := gw_at 6 (z := tables_1_6) rfl (List.mem_of_getElem? (i := 235) rfl) rfl
theorem mw_1102 : (.methodLink RL 84 yX12_marked : Cond) ∈ gwL := gw_at 6 (z := tables_1_6) rfl (List.mem_of_getElem? (i := 232) rfl) rfl
theorem mw_1103 : (.instanceMethod yX12_marked : Cond) ∈ gwL := gw_at 6 (z := tables_1_6) rfl (List.mem_of_getElem? (i := 233) rfl) rfl
theorem mw_1104 : (.selects RX12 yX12_marked yX12_marked : Cond) ∈ gwL := gw_at 6 (z := tables_1_6) rfl (List.mem_of_getElem? (i := 234) rfl) rfl
theorem mw_1105 : (.code yX11_chairs cX11_chairs 6 (some .int) : Cond) ∈ gwL := gw_at 4 (z := tables_1_4) rfl (List.mem_of_getElem? (i := 47) rfl) rfl
theorem mw_1106 : (.methodLink RL 85 yX11_chairs : Cond) ∈ gwL := gw_at 4 (z := tables_1_4) rfl (List.mem_of_getElem? (i := 44) rfl) rfl
theorem mw_1107 : (.instanceMethod yX11_chairs : Cond) ∈ gwL := gw_at 4 (z := tables_1_4) rfl (List.mem_of_getElem? (i := 45) rfl) rfl
theorem mw_1108 : (.selects RX11 yX11_chairs yX11_chairs : Cond) ∈ gwL := gw_at 4 (z := tables_1_4) rfl (List.mem_of_getElem? (i := 46) rfl) rfl
theorem mw_1109 : (.code yX12_chairs cX12_chairs 7 (some .int) : Cond) ∈ gwL := gw_at 7 (z := tables_1_7) rfl (List.mem_of_getElem? (i := 4) rfl) rfl
theorem mw_1110 : (.methodLink RL 88 yX12_chairs : Cond) ∈ gwL := gw_at 7 (z := tables_1_7) rfl (List.mem_of_getElem? (i := 1) rfl) rfl
theorem mw_1111 : (.instanceMethod yX12_chairs : Cond) ∈ gwL := gw_at 7 (z := tables_1_7) rfl (List.mem_of_getElem? (i := 2) rfl) rfl
theorem mw_1112 : (.selects RX12 yX12_chairs yX12_chairs : Cond) ∈ gwL := gw_at 7 (z := tables_1_7) rfl (List.mem_of_getElem? (i := 3) rfl) rfl
theorem mw_1113 : (.code yX11_wilful cX11_wilful 4 (some .int) : Cond) ∈ gwL := gw_at 4 (z := tables_1_4) rfl (List.mem_of_getElem? (i := 80) rfl) rfl
theorem mw_1114 : (.methodLink RL 89 yX11_wilful : Cond) ∈ gwL := gw_at 4 (z := tables_1_4) rfl (List.mem_of_getElem? (i := 77) rfl) rfl
theorem mw_1115 : (.instanceMethod yX11_wilful : Cond) ∈ gwL := gw_at 4 (z := tables_1_4) rfl (List.mem_of_getElem? (i := 78) rfl) rfl
theorem mw_1116 : (.selects RX11 yX11_wilful yX11_wilful : Cond) ∈ gwL := gw_at 4 (z := tables_1_4) rfl (List.mem_of_getElem? (i := 79) rfl) rfl
theorem mw_1117 : (.code yX12_wilful cX12_wilful 6 (some .int) : Cond) ∈ gwL := gw_at 6 (z := tables_1_6) rfl (List.mem_of_getElem? (i := 239) rfl) rfl
theorem mw_1118 : (.methodLink RL 92 yX12_wilful : Cond) ∈ gwL := gw_at 6 (z := tables_1_6) rfl (List.mem_of_getElem? (i := 236) rfl) rfl
theorem mw_1119 : (.instanceMethod yX12_wilful : Cond) ∈ gwL := gw_at 6 (z := tables_1_6) rfl (List.mem_of_getElem? (i := 237) rfl) rfl
theorem mw_1120 : (.selects RX12 yX12_wilful yX12_wilful : Cond) ∈ gwL := gw_at 6 (z := tables_1_6) rfl (List.mem_of_getElem? (i := 238) rfl) rfl
theorem mw_1121 : (.code yX11_who cX11_who 5 (some .int) : Cond) ∈ gwL := gw_at 4 (z := tables_1_4) rfl (List.mem_of_getElem? (i := 89) rfl) rfl
theorem mw_1122 : (.methodLink RL 93 yX11_who : Cond) ∈ gwL := gw_at 4 (z := tables_1_4) rfl (List.mem_of_getElem? (i := 86) rfl) rfl
theorem mw_1123 : (.instanceMethod yX11_who : Cond) ∈ gwL := gw_at 4 (z := tables_1_4) rfl (List.mem_of_getElem? (i := 87) rfl) rfl
theorem mw_1124 : (.selects RX11 yX11_who yX11_who : Cond) ∈ gwL := gw_at 4 (z := tables_1_4) rfl (List.mem_of_getElem? (i := 88) rfl) rfl
theorem mw_1125 : (.code yX12_who cX12_who 10 (some .int) : Cond) ∈ gwL := gw_at 7 (z := tables_1_7) rfl (List.mem_of_getElem? (i := 20) rfl) rfl
theorem mw_1126 : (.methodLink RL 96 yX12_who : Cond) ∈ gwL := gw_at 7 (z := tables_1_7) rfl (List.mem_of_getElem? (i := 17) rfl) rfl
theorem mw_1127 : (.instanceMethod yX12_who : Cond) ∈ gwL := gw_at 7 (z := tables_1_7) rfl (List.mem_of_getElem? (i := 18) rfl) rfl
theorem mw_1128 : (.selects RX12 yX12_who yX12_who : Cond) ∈ gwL := gw_at 7 (z := tables_1_7) rfl (List.mem_of_getElem? (i := 19) rfl) rfl
theorem mw_1129 : (.code yX11_judge cX11_judge 7 (some .int) : Cond) ∈ gwL := gw_at 4 (z := tables_1_4) rfl (List.mem_of_getElem? (i := 128) rfl) rfl
theorem mw_1130 : (.methodLink RL 97 yX11_judge : Cond) ∈ gwL := gw_at 4 (z := tables_1_4) rfl (List.mem_of_getElem? (i := 125) rfl) rfl
theorem mw_1131 : (.instanceMethod yX11_judge : Cond) ∈ gwL := gw_at 4 (z := tables_1_4) rfl (List.mem_of_getElem? (i := 126) rfl) rfl
theorem mw_1132 : (.selects RX11 yX11_judge yX11_judge : Cond) ∈ gwL := gw_at 4 (z := tables_1_4) rfl (List.mem_of_getElem? (i := 127) rfl) rfl
theorem mw_1133 : (.code yX12_judge cX12_judge 4 (some .int) : Cond) ∈ gwL := gw_at 7 (z := tables_1_7) rfl (List.mem_of_getElem? (i := 38) rfl) rfl
theorem mw_1134 : (.methodLink RL 100 yX12_judge : Cond) ∈ gwL := gw_at 7 (z := tables_1_7) rfl (List.mem_of_getElem? (i := 35) rfl) rfl
theorem mw_1135 : (.instanceMethod yX12_judge : Cond) ∈ gwL := gw_at 7 (z := tables_1_7) rfl (List.mem_of_getElem? (i := 36) rfl) rfl
theorem mw_1136 : (.selects RX12 yX12_judge yX12_judge : Cond) ∈ gwL := gw_at 7 (z := tables_1_7) rfl (List.mem_of_getElem? (i := 37) rfl) rfl
theorem mw_1137 : (.code yX11_drawn cX11_drawn 7 (some .int) : Cond) ∈ gwL := gw_at 4 (z := tables_1_4) rfl (List.mem_of_getElem? (i := 140) rfl) rfl
theorem mw_1138 : (.methodLink RL 101 yX11_drawn : Cond) ∈ gwL := gw_at 4 (z := tables_1_4) rfl (List.mem_of_getElem? (i := 137) rfl) rfl
theorem mw_1139 : (.instanceMethod yX11_drawn : Cond) ∈ gwL := gw_at 4 (z := tables_1_4) rfl (List.mem_of_getElem? (i := 138) rfl) rfl
theorem mw_1140 : (.selects RX11 yX11_drawn yX11_drawn : Cond) ∈ gwL := gw_at 4 (z := tables_1_4) rfl (List.mem_of_getElem? (i := 139) rfl) rfl
theorem mw_1141 : (.code yX12_drawn cX12_drawn 11 (some .int) : Cond) ∈ gwL := gw_at 7 (z := tables_1_7) rfl (List.mem_of_getElem? (i := 42) rfl) rfl
theorem mw_1142 : (.methodLink RL 105 yX12_drawn : Cond) ∈ gwL := gw_at 7 (z := tables_1_7) rfl (List.mem_of_getElem? (i := 39) rfl) rfl
theorem mw_1143 : (.instanceMethod yX12_drawn : Cond) ∈ gwL := gw_at 7 (z := tables_1_7) rfl (List.mem_of_getElem? (i := 40) rfl) rfl
theorem mw_1144 : (.selects RX12 yX12_drawn yX12_drawn : Cond) ∈ gwL := gw_at 7 (z := tables_1_7) rfl (List.mem_of_getElem? (i := 41) rfl) rfl
theorem mw_1145 : (.code yX11_sit cX11_sit 2 (some .int) : Cond) ∈ gwL := gw_at 4 (z := tables_1_4) rfl (List.mem_of_getElem? (i := 149) rfl) rfl
theorem mw_1146 : (.methodLink RL 106 yX11_sit : Cond) ∈ gwL := gw_at 4 (z := tables_1_4) rfl (List.mem_of_getElem? (i := 146) rfl) rfl
theorem mw_1147 : (.instanceMethod yX11_sit : Cond) ∈ gwL := gw_at 4 (z := tables_1_4) rfl (List.mem_of_getElem? (i := 147) rfl) rfl
theorem mw_1148 : (.selects RX11 yX11_sit yX11_sit : Cond) ∈ gwL := gw_at 4 (z := tables_1_4) rfl (List.mem_of_getElem? (i := 148) rfl) rfl
theorem mw_1149 : (.code yX12_sit cX12_sit 3 (some .int) : Cond) ∈ gwL := gw_at 7 (z := tables_1_7) rfl (List.mem_of_getElem? (i := 48) rfl) rfl
theorem mw_1150 : (.methodLink RL 109 yX12_sit : Cond) ∈ gwL := gw_at 7 (z := tables_1_7) rfl (List.mem_of_getElem? (i := 45) rfl) rfl
theorem mw_1151 : (.instanceMethod yX12_sit : Cond) ∈ gwL := gw_at 7 (z := tables_1_7) rfl (List.mem_of_getElem? (i := 46) rfl) rfl
theorem mw_1152 : (.selects RX12 yX12_sit yX12_sit : Cond) ∈ gwL := gw_at 7 (z := tables_1_7) rfl (List.mem_of_getElem? (i := 47) rfl) rfl
theorem mw_1153 : (.code yX11_set cX11_set 3 (some .int) : Cond) ∈ gwL := gw_at 4 (z := tables_1_4) rfl (List.mem_of_getElem? (i := 161) rfl) rfl
theorem mw_1154 : (.methodLink RL 110 yX11_set : Cond) ∈ gwL := gw_at 4 (z := tables_1_4) rfl (List.mem_of_getElem? (i := 158) rfl) rfl
theorem mw_1155 : (.instanceMethod yX11_set : Cond) ∈ gwL := gw_at 4 (z := tables_1_4) rfl (List.mem_of_getElem? (i := 159) rfl) rfl
theorem mw_1156 : (.selects RX11 yX11_set yX11_set : Cond) ∈ gwL := gw_at 4 (z := tables_1_4) rfl (List.mem_of_getElem? (i := 160) rfl) rfl
theorem mw_1157 : (.code yX12_set cX12_set 4 (some .int) : Cond) ∈ gwL := gw_at 7 (z := tables_1_7) rfl (List.mem_of_getElem? (i := 52) rfl) rfl
theorem mw_1158 : (.methodLink RL 113 yX12_set : Cond) ∈ gwL := gw_at 7 (z := tables_1_7) rfl (List.mem_of_getElem? (i := 49) rfl) rfl
theorem mw_1159 : (.instanceMethod yX12_set : Cond) ∈ gwL := gw_at 7 (z := tables_1_7) rfl (List.mem_of_getElem? (i := 50) rfl) rfl
theorem mw_1160 : (.selects RX12 yX12_set yX12_set : Cond) ∈ gwL := gw_at 7 (z := tables_1_7) rfl (List.mem_of_getElem? (i := 51) rfl) rfl
theorem mw_1161 : (.code yX11_night cX11_night 1 (some .int) : Cond) ∈ gwL := gw_at 4 (z := tables_1_4) rfl (List.mem_of_getElem? (i := 170) rfl) rfl
theorem mw_1162 : (.methodLink RL 114 yX11_night : Cond) ∈ gwL := gw_at 4 (z := tables_1_4) rfl (List.mem_of_getElem? (i := 167) rfl) rfl
theorem mw_1163 : (.instanceMethod yX11_night : Cond) ∈ gwL := gw_at 4 (z := tables_1_4) rfl (List.mem_of_getElem? (i := 168) rfl) rfl
theorem mw_1164 : (.selects RX11 yX11_night yX11_night : Cond) ∈ gwL := gw_at 4 (z := tables_1_4) rfl (List.mem_of_getElem? (i := 169) rfl) rfl
theorem mw_1165 : (.code yX12_night cX12_night 4 (some .int) : Cond) ∈ gwL := gw_at 7 (z := tables_1_7) rfl (List.mem_of_getElem? (i := 56) rfl) rfl
theorem mw_1166 : (.methodLink RL 117 yX12_night : Cond) ∈ gwL := gw_at 7 (z := tables_1_7) rfl (List.mem_of_getElem? (i := 53) rfl) rfl
theorem mw_1167 : (.instanceMethod yX12_night : Cond) ∈ gwL := gw_at 7 (z := tables_1_7) rfl (List.mem_of_getElem? (i := 54) rfl) rfl
theorem mw_1168 : (.selects RX12 yX12_night yX12_night : Cond) ∈ gwL := gw_at 7 (z := tables_1_7) rfl (List.mem_of_getElem? (i := 55) rfl) rfl
theorem mw_1169 : (.code yX11_led cX11_led 2 (some .int) : Cond) ∈ gwL := gw_at 4 (z := tables_1_4) rfl (List.mem_of_getElem? (i := 179) rfl) rfl
theorem mw_1170 : (.methodLink RL 118 yX11_led : Cond) ∈ gwL := gw_at 4 (z := tables_1_4) rfl (List.mem_of_getElem? (i := 176) rfl) rfl
theorem mw_1171 : (.instanceMethod yX11_led : Cond) ∈ gwL := gw_at 4 (z := tables_1_4) rfl (List.mem_of_getElem? (i := 177) rfl) rfl
theorem mw_1172 : (.selects RX11 yX11_led yX11_led : Cond) ∈ gwL := gw_at 4 (z := tables_1_4) rfl (List.mem_of_getElem? (i := 178) rfl) rfl
theorem mw_1173 : (.methodLink RL 121 yX12_led : Cond) ∈ gwL := gw_at 7 (z := tables_1_7) rfl (List.mem_of_getElem? (i := 57) rfl) rfl
theorem mw_1174 : (.code yX11_image cX11_image 1 (some .int) : Cond) ∈ gwL := gw_at 4 (z := tables_1_4) rfl (List.mem_of_getElem? (i := 183) rfl) rfl
theorem mw_1175 : (.methodLink RL 122 yX11_image : Cond) ∈ gwL := gw_at 4 (z := tables_1_4) rfl (List.mem_of_getElem? (i := 180) rfl) rfl
theorem mw_1176 : (.instanceMethod yX11_image : Cond) ∈ gwL := gw_at 4 (z := tables_1_4) rfl (List.mem_of_getElem? (i := 181) rfl) rfl
theorem mw_1177 : (.selects RX11 yX11_image yX11_image : Cond) ∈ gwL := gw_at 4 (z := tables_1_4) rfl (List.mem_of_getElem? (i := 182) rfl) rfl
theorem mw_1178 : (.code yX12_image cX12_image 2 (some .int) : Cond) ∈ gwL := gw_at 7 (z := tables_1_7) rfl (List.mem_of_getElem? (i := 64) rfl) rfl
theorem mw_1179 : (.methodLink RL 125 yX12_image : Cond) ∈ gwL := gw_at 7 (z := tables_1_7) rfl (List.mem_of_getElem? (i := 61) rfl) rfl
theorem mw_1180 : (.instanceMethod yX12_image : Cond) ∈ gwL := gw_at 7 (z := tables_1_7) rfl (List.mem_of_getElem? (i := 62) rfl) rfl
theorem mw_1181 : (.selects RX12 yX12_image yX12_image : Cond) ∈ gwL := gw_at 7 (z := tables_1_7) rfl (List.mem_of_getElem? (i := 63) rfl) rfl
theorem mw_1182 : (.code yX11_back cX11_back 1 (some .int) : Cond) ∈ gwL := gw_at 4 (z := tables_1_4) rfl (List.mem_of_getElem? (i := 191) rfl) rfl
theorem mw_1183 : (.methodLink RL 126 yX11_back : Cond) ∈ gwL := gw_at 4 (z := tables_1_4) rfl (List.mem_of_getElem? (i := 188) rfl) rfl
theorem mw_1184 : (.instanceMethod yX11_back : Cond) ∈ gwL := gw_at 4 (z := tables_1_4) rfl (List.mem_of_getElem? (i := 189) rfl) rfl
theorem mw_1185 : (.selects RX11 yX11_back yX11_back : Cond) ∈ gwL := gw_at 4 (z := tables_1_4) rfl (List.mem_of_getElem? (i := 190) rfl) rfl
theorem mw_1186 : (.code yX12_back cX12_back 2 (some .int) : Cond) ∈ gwL := gw_at 7 (z := tables_1_7) rfl (List.mem_of_getElem? (i := 69) rfl) rfl
theorem mw_1187 : (.methodLink RL 129 yX12_back : Cond) ∈ gwL := gw_at 7 (z := tables_1_7) rfl (List.mem_of_getElem? (i := 66) rfl) rfl
theorem mw_1188 : (.instanceMethod yX12_back : Cond) ∈ gwL := gw_at 7 (z := tables_1_7) rfl (List.mem_of_getElem? (i := 67) rfl) rfl
theorem mw_1189 : (.selects RX12 yX12_back yX12_back : Cond) ∈ gwL := gw_at 7 (z := tables_1_7) rfl (List.mem_of_getElem? (i := 68) rfl) rfl
theorem mw_1190 : (.code yX11_undo cX11_undo 1 (some .int) : Cond) ∈ gwL := gw_at 4 (z := tables_1_4) rfl (List.mem_of_getElem? (i := 199) rfl) rfl
theorem mw_1191 : (.methodLink RL 130 yX11_undo : Cond) ∈ gwL := gw_at 4 (z := tables_1_4) rfl (List.mem_of_getElem? (i := 196) rfl) rfl
theorem mw_1192 : (.instanceMethod yX11_undo : Cond) ∈ gwL := gw_at 4 (z := tables_1_4) rfl (List.mem_of_getElem? (i := 197) rfl) rfl
theorem mw_1193 : (.selects RX11 yX11_undo yX11_undo : Cond) ∈ gwL := gw_at 4 (z := tables_1_4) rfl (List.mem_of_getElem? (i := 198) rfl) rfl
theorem mw_1194 : (.code yX12_undo cX12_undo 1 (some .int) : Cond) ∈ gwL := gw_at 5 (z := tables_1_5) rfl (List.mem_of_getElem? (i := 231) rfl) rfl
theorem mw_1195 : (.methodLink RL 133 yX12_undo : Cond) ∈ gwL := gw_at 5 (z := tables_1_5) rfl (List.mem_of_getElem? (i := 228) rfl) rfl
theorem mw_1196 : (.instanceMethod yX12_undo : Cond) ∈ gwL := gw_at 5 (z := tables_1_5) rfl (List.mem_of_getElem? (i := 229) rfl) rfl
theorem mw_1197 : (.selects RX12 yX12_undo yX12_undo : Cond) ∈ gwL := gw_at 5 (z := tables_1_5) rfl (List.mem_of_getElem? (i := 230) rfl) rfl
theorem mw_1198 : (.code yX11_redo cX11_redo 1 (some .int) : Cond) ∈ gwL := gw_at 4 (z := tables_1_4) rfl (List.mem_of_getElem? (i := 203) rfl) rfl
theorem mw_1199 : (.methodLink RL 134 yX11_redo : Cond) ∈ gwL := gw_at 4 (z := tables_1_4) rfl (List.mem_of_getElem? (i := 200) rfl) rfl
theorem mw_1200 : (.instanceMethod yX11_redo : Cond) ∈ gwL := gw_at 4 (z := tables_1_4) rfl (List.mem_of_getElem? (i := 201) rfl) rfl
theorem mw_1201 : (.selects RX11 yX11_redo yX11_redo : Cond) ∈ gwL := gw_at 4 (z := tables_1_4) rfl (List.mem_of_getElem? (i := 202) rfl) rfl
theorem mw_1202 : (.code yX12_redo cX12_redo 1 (some .int) : Cond) ∈ gwL := gw_at 5 (z := tables_1_5) rfl (List.mem_of_getElem? (i := 235) rfl) rfl
theorem mw_1203 : (.methodLink RL 137 yX12_redo : Cond) ∈ gwL := gw_at 5 (z := tables_1_5) rfl (List.mem_of_getElem? (i := 232) rfl) rfl
theorem mw_1204 : (.instanceMethod yX12_redo : Cond) ∈ gwL := gw_at 5 (z := tables_1_5) rfl (List.mem_of_getElem? (i := 233) rfl) rfl
theorem mw_1205 : (.selects RX12 yX12_redo yX12_redo : Cond) ∈ gwL := gw_at 5 (z := tables_1_5) rfl (List.mem_of_getElem? (i := 234) rfl) rfl
theorem mw_1206 : (.code yX11_body cX11_body 2 (some .int) : Cond) ∈ gwL := gw_at 4 (z := tables_1_4) rfl (List.mem_of_getElem? (i := 207) rfl) rfl
theorem mw_1207 : (.methodLink RL 138 yX11_body : Cond) ∈ gwL := gw_at 4 (z := tables_1_4) rfl (List.mem_of_getElem? (i := 204) rfl) rfl
theorem mw_1208 : (.instanceMethod yX11_body : Cond) ∈ gwL := gw_at 4 (z := tables_1_4) rfl (List.mem_of_getElem? (i := 205) rfl) rfl
theorem mw_1209 : (.selects RX11 yX11_body yX11_body : Cond) ∈ gwL := gw_at 4 (z := tables_1_4) rfl (List.mem_of_getElem? (i := 206) rfl) rfl
theorem mw_1210 : (.code yX12_body cX12_body 2 (some .int) : Cond) ∈ gwL := gw_at 7 (z := tables_1_7) rfl (List.mem_of_getElem? (i := 73) rfl) rfl
theorem mw_1211 : (.methodLink RL 141 yX12_body : Cond) ∈ gwL := gw_at 7 (z := tables_1_7) rfl (List.mem_of_getElem? (i := 70) rfl) rfl
theorem mw_1212 : (.instanceMethod yX12_body : Cond) ∈ gwL := gw_at 7 (z := tables_1_7) rfl (List.mem_of_getElem? (i := 71) rfl) rfl
theorem mw_1213 : (.selects RX12 yX12_body yX12_body : Cond) ∈ gwL := gw_at 7 (z := tables_1_7) rfl (List.mem_of_getElem? (i := 72) rfl) rfl
theorem mw_1214 : (.code yX11_act cX11_act 4 (some .int) : Cond) ∈ gwL := gw_at 4 (z := tables_1_4) rfl (List.mem_of_getElem? (i := 218) rfl) rfl
theorem mw_1215 : (.methodLink RL 142 yX11_act : Cond) ∈ gwL := gw_at 4 (z := tables_1_4) rfl (List.mem_of_getElem? (i := 215) rfl) rfl
theorem mw_1216 : (.instanceMethod yX11_act : Cond) ∈ gwL := gw_at 4 (z := tables_1_4) rfl (List.mem_of_getElem? (i := 216) rfl) rfl
theorem mw_1217 : (.selects RX11 yX11_act yX11_act : Cond) ∈ gwL := gw_at 4 (z := tables_1_4) rfl (List.mem_of_getElem? (i := 217) rfl) rfl
theorem mw_1218 : (.code yX12_act cX12_act 4 (some .int) : Cond) ∈ gwL := gw_at 7 (z := tables_1_7) rfl (List.mem_of_getElem? (i := 77) rfl) rfl
theorem mw_1219 : (.methodLink RL 145 yX12_act : Cond) ∈ gwL := gw_at 7 (z := tables_1_7) rfl (List.mem_of_getElem? (i := 74) rfl) rfl
theorem mw_1220 : (.instanceMethod yX12_act : Cond) ∈ gwL := gw_at 7 (z := tables_1_7) rfl (List.mem_of_getElem? (i := 75) rfl) rfl
theorem mw_1221 : (.selects RX12 yX12_act yX12_act : Cond) ∈ gwL := gw_at 7 (z := tables_1_7) rfl (List.mem_of_getElem? (i := 76) rfl) rfl
theorem mw_1222 : (.code yX11_trace cX11_trace 2 (some .int) : Cond) ∈ gwL := gw_at 5 (z := tables_1_5) rfl (List.mem_of_getElem? (i := 1) rfl) rfl
theorem mw_1223 : (.methodLink RL 146 yX11_trace : Cond) ∈ gwL := gw_at 4 (z := tables_1_4) rfl (List.mem_of_getElem? (i := 238) rfl) rfl
theorem mw_1224 : (.instanceMethod yX11_trace : Cond) ∈ gwL := gw_at 4 (z := tables_1_4) rfl (List.mem_of_getElem? (i := 239) rfl) rfl
theorem mw_1225 : (.selects RX11 yX11_trace yX11_trace : Cond) ∈ gwL := gw_at 5 (z := tables_1_5) rfl (List.mem_of_getElem? (i := 0) rfl) rfl
theorem mw_1226 : (.code yX12_trace cX12_trace 2 (some .int) : Cond) ∈ gwL := gw_at 7 (z := tables_1_7) rfl (List.mem_of_getElem? (i := 105) rfl) rfl
theorem mw_1227 : (.methodLink RL 149 yX12_trace : Cond) ∈ gwL := gw_at 7 (z := tables_1_7) rfl (List.mem_of_getElem? (i := 102) rfl) rfl
theorem mw_1228 : (.instanceMethod yX12_trace : Cond) ∈ gwL := gw_at 7 (z := tables_1_7) rfl (List.mem_of_getElem? (i := 103) rfl) rfl
theorem mw_1229 : (.selects RX12 yX12_trace yX12_trace : Cond) ∈ gwL := gw_at 7 (z := tables_1_7) rfl (List.mem_of_getElem? (i := 104) rfl) rfl
theorem mw_1230 : (.code yX11_keep cX11_keep 3 (some .int) : Cond) ∈ gwL := gw_at 5 (z := tables_1_5) rfl (List.mem_of_getElem? (i := 5) rfl) rfl
theorem mw_1231 : (.methodLink RL 150 yX11_keep : Cond) ∈ gwL := gw_at 5 (z := tables_1_5) rfl (List.mem_of_getElem? (i := 2) rfl) rfl
theorem mw_1232 : (.instanceMethod yX11_keep : Cond) ∈ gwL := gw_at 5 (z := tables_1_5) rfl (List.mem_of_getElem? (i := 3) rfl) rfl
theorem mw_1233 : (.selects RX11 yX11_keep yX11_keep : Cond) ∈ gwL := gw_at 5 (z := tables_1_5) rfl (List.mem_of_getElem? (i := 4) rfl) rfl
theorem mw_1234 : (.code yX12_keep cX12_keep 3 (some .int) : Cond) ∈ gwL := gw_at 7 (z := tables_1_7) rfl (List.mem_of_getElem? (i := 109) rfl) rfl
theorem mw_1235 : (.methodLink RL 153 yX12_keep : Cond) ∈ gwL := gw_at 7 (z := tables_1_7) rfl (List.mem_of_getElem? (i := 106) rfl) rfl
theorem mw_1236 : (.instanceMethod yX12_keep : Cond) ∈ gwL := gw_at 7 (z := tables_1_7) rfl (List.mem_of_getElem? (i := 107) rfl) rfl
theorem mw_1237 : (.selects RX12 yX12_keep yX12_keep : Cond) ∈ gwL := gw_at 7 (z := tables_1_7) rfl (List.mem_of_getElem? (i := 108) rfl) rfl
theorem mw_1238 : (.code yX11_row cX11_row 4 (some .int) : Cond) ∈ gwL := gw_at 5 (z := tables_1_5) rfl (List.mem_of_getElem? (i := 13) rfl) rfl
theorem mw_1239 : (.methodLink RL 154 yX11_row : Cond) ∈ gwL := gw_at 5 (z := tables_1_5) rfl (List.mem_of_getElem? (i := 10) rfl) rfl
theorem mw_1240 : (.instanceMethod yX11_row : Cond) ∈ gwL := gw_at 5 (z := tables_1_5) rfl (List.mem_of_getElem? (i := 11) rfl) rfl
theorem mw_1241 : (.selects RX11 yX11_row yX11_row : Cond) ∈ gwL := gw_at 5 (z := tables_1_5) rfl (List.mem_of_getElem? (i := 12) rfl) rfl
theorem mw_1242 : (.code yX12_row cX12_row 5 (some .int) : Cond) ∈ gwL := gw_at 7 (z := tables_1_7) rfl (List.mem_of_getElem? (i := 113) rfl) rfl
theorem mw_1243 : (.methodLink RL 157 yX12_row : Cond) ∈ gwL := gw_at 7 (z := tables_1_7) rfl (List.mem_of_getElem? (i := 110) rfl) rfl
theorem mw_1244 : (.instanceMethod yX12_row : Cond) ∈ gwL := gw_at 7 (z := tables_1_7) rfl (List.mem_of_getElem? (i := 111) rfl) rfl
theorem mw_1245 : (.selects RX12 yX12_row yX12_row : Cond) ∈ gwL := gw_at 7 (z := tables_1_7) rfl (List.mem_of_getElem? (i := 112) rfl) rfl
theorem mw_1246 : (.constantLong RL 158 (4294967295) : Cond) ∈ gwL := gw_at 7 (z := tables_1_7) rfl (List.mem_of_getElem? (i := 150) rfl) rfl
theorem mw_1247 : (.code yX11_put cX11_put 6 (some .int) : Cond) ∈ gwL := gw_at 5 (z := tables_1_5) rfl (List.mem_of_getElem? (i := 21) rfl) rfl
theorem mw_1248 : (.methodLink RL 160 yX11_put : Cond) ∈ gwL := gw_at 5 (z := tables_1_5) rfl (List.mem_of_getElem? (i := 18) rfl) rfl
theorem mw_1249 : (.instanceMethod yX11_put : Cond) ∈ gwL := gw_at 5 (z := tables_1_5) rfl (List.mem_of_getElem? (i := 19) rfl) rfl
theorem mw_1250 : (.selects RX11 yX11_put yX11_put : Cond) ∈ gwL := gw_at 5 (z := tables_1_5) rfl (List.mem_of_getElem? (i := 20) rfl) rfl
theorem mw_1251 : (.code yX12_put cX12_put 6 (some .int) : Cond) ∈ gwL := gw_at 7 (z := tables_1_7) rfl (List.mem_of_getElem? (i := 118) rfl) rfl
theorem mw_1252 : (.methodLink RL 164 yX12_put : Cond) ∈ gwL := gw_at 7 (z := tables_1_7) rfl (List.mem_of_getElem? (i := 115) rfl) rfl
theorem mw_1253 : (.instanceMethod yX12_put : Cond) ∈ gwL := gw_at 7 (z := tables_1_7) rfl (List.mem_of_getElem? (i := 116) rfl) rfl
theorem mw_1254 : (.selects RX12 yX12_put yX12_put : Cond) ∈ gwL := gw_at 7 (z := tables_1_7) rfl (List.mem_of_getElem? (i := 117) rfl) rfl
theorem mw_1255 : (.code yX11_element cX11_element 3 (some .long) : Cond) ∈ gwL := gw_at 5 (z := tables_1_5) rfl (List.mem_of_getElem? (i := 37) rfl) rfl
theorem mw_1256 : (.methodLink RL 165 yX11_element : Cond) ∈ gwL := gw_at 5 (z := tables_1_5) rfl (List.mem_of_getElem? (i := 34) rfl) rfl
theorem mw_1257 : (.instanceMethod yX11_element : Cond) ∈ gwL := gw_at 5 (z := tables_1_5) rfl (List.mem_of_getElem? (i := 35) rfl) rfl
theorem mw_1258 : (.selects RX11 yX11_element yX11_element : Cond) ∈ gwL := gw_at 5 (z := tables_1_5) rfl (List.mem_of_getElem? (i := 36) rfl) rfl
theorem mw_1259 : (.code yX12_element cX12_element 3 (some .long) : Cond) ∈ gwL := gw_at 7 (z := tables_1_7) rfl (List.mem_of_getElem? (i := 129) rfl) rfl
theorem mw_1260 : (.methodLink RL 169 yX12_element : Cond) ∈ gwL := gw_at 7 (z := tables_1_7) rfl (List.mem_of_getElem? (i := 126) rfl) rfl
theorem mw_1261 : (.instanceMethod yX12_element : Cond) ∈ gwL := gw_at 7 (z := tables_1_7) rfl (List.mem_of_getElem? (i := 127) rfl) rfl
theorem mw_1262 : (.selects RX12 yX12_element yX12_element : Cond) ∈ gwL := gw_at 7 (z := tables_1_7) rfl (List.mem_of_getElem? (i := 128) rfl) rfl
theorem mw_1263 : (.code yX11_shift cX11_shift 8 (some .int) : Cond) ∈ gwL := gw_at 5 (z := tables_1_5) rfl (List.mem_of_getElem? (i := 42) rfl) rfl
theorem mw_1264 : (.methodLink RL 170 yX11_shift : Cond) ∈ gwL := gw_at 5 (z := tables_1_5) rfl (List.mem_of_getElem? (i := 39) rfl) rfl
theorem mw_1265 : (.instanceMethod yX11_shift : Cond) ∈ gwL := gw_at 5 (z := tables_1_5) rfl (List.mem_of_getElem? (i := 40) rfl) rfl
theorem mw_1266 : (.selects RX11 yX11_shift yX11_shift : Cond) ∈ gwL := gw_at 5 (z := tables_1_5) rfl (List.mem_of_getElem? (i := 41) rfl) rfl
theorem mw_1267 : (.code yX12_shift cX12_shift 7 (some .int) : Cond) ∈ gwL := gw_at 7 (z := tables_1_7) rfl (List.mem_of_getElem? (i := 134) rfl) rfl
theorem mw_1268 : (.methodLink RL 174 yX12_shift : Cond) ∈ gwL := gw_at 7 (z := tables_1_7) rfl (List.mem_of_getElem? (i := 131) rfl) rfl
theorem mw_1269 : (.instanceMethod yX12_shift : Cond) ∈ gwL := gw_at 7 (z := tables_1_7) rfl (List.mem_of_getElem? (i := 132) rfl) rfl
theorem mw_1270 : (.selects RX12 yX12_shift yX12_shift : Cond) ∈ gwL := gw_at 7 (z := tables_1_7) rfl (List.mem_of_getElem? (i := 133) rfl) rfl
theorem mw_1271 : (.code yX11_taken cX11_taken 4 (some .int) : Cond) ∈ gwL := gw_at 5 (z := tables_1_5) rfl (List.mem_of_getElem? (i := 47) rfl) rfl
theorem mw_1272 : (.methodLink RL 175 yX11_taken : Cond) ∈ gwL := gw_at 5 (z := tables_1_5) rfl (List.mem_of_getElem? (i := 44) rfl) rfl
theorem mw_1273 : (.instanceMethod yX11_taken : Cond) ∈ gwL := gw_at 5 (z := tables_1_5) rfl (List.mem_of_getElem? (i := 45) rfl) rfl
theorem mw_1274 : (.selects RX11 yX11_taken yX11_taken : Cond) ∈ gwL := gw_at 5 (z := tables_1_5) rfl (List.mem_of_getElem? (i := 46) rfl) rfl
theorem mw_1275 : (.code yX12_taken cX12_taken 4 (some .int) : Cond) ∈ gwL := gw_at 7 (z := tables_1_7) rfl (List.mem_of_getElem? (i := 138) rfl) rfl
theorem mw_1276 : (.methodLink RL 178 yX12_taken : Cond) ∈ gwL := gw_at 7 (z := tables_1_7) rfl (List.mem_of_getElem? (i := 135) rfl) rfl
theorem mw_1277 : (.instanceMethod yX12_taken : Cond) ∈ gwL := gw_at 7 (z := tables_1_7) rfl (List.mem_of_getElem? (i := 136) rfl) rfl
theorem mw_1278 : (.selects RX12 yX12_taken yX12_taken : Cond) ∈ gwL := gw_at 7 (z := tables_1_7) rfl (List.mem_of_getElem? (i := 137) rfl) rfl
theorem mw_1279 : (.code yX11_count cX11_count 2 (some .int) : Cond) ∈ gwL := gw_at 5 (z := tables_1_5) rfl (List.mem_of_getElem? (i := 55) rfl) rfl
theorem mw_1280 : (.methodLink RL 179 yX11_count : Cond) ∈ gwL := gw_at 5 (z := tables_1_5) rfl (List.mem_of_getElem? (i := 52) rfl) rfl
theorem mw_1281 : (.instanceMethod yX11_count : Cond) ∈ gwL := gw_at 5 (z := tables_1_5) rfl (List.mem_of_getElem? (i := 53) rfl) rfl
theorem mw_1282 : (.selects RX11 yX11_count yX11_count : Cond) ∈ gwL := gw_at 5 (z := tables_1_5) rfl (List.mem_of_getElem? (i := 54) rfl) rfl
theorem mw_1283 : (.code yX12_count cX12_count 2 (some .int) : Cond) ∈ gwL := gw_at 7 (z := tables_1_7) rfl (List.mem_of_getElem? (i := 149) rfl) rfl
theorem mw_1284 : (.methodLink RL 182 yX12_count : Cond) ∈ gwL := gw_at 7 (z := tables_1_7) rfl (List.mem_of_getElem? (i := 146) rfl) rfl
theorem mw_1285 : (.instanceMethod yX12_count : Cond) ∈ gwL := gw_at 7 (z := tables_1_7) rfl (List.mem_of_getElem? (i := 147) rfl) rfl
theorem mw_1286 : (.selects RX12 yX12_count yX12_count : Cond) ∈ gwL := gw_at 7 (z := tables_1_7) rfl (List.mem_of_getElem? (i := 148) rfl) rfl
theorem mw_1287 : (.classLink RL 7 RX11 : Cond) ∈ gwL := gw_at 1 (z := tables_1_1) rfl (List.mem_of_getElem? (i := 17) rfl) rfl
theorem mw_1288 : (.instantiable RX11 10 : Cond) ∈ gwL := gw_at 1 (z := tables_1_1) rfl (List.mem_of_getElem? (i := 18) rfl) rfl
theorem mw_1289 : (.code yX11_init cX11_init 2 none : Cond) ∈ gwL := gw_at 1 (z := tables_1_1) rfl (List.mem_of_getElem? (i := 21) rfl) rfl
theorem mw_1290 : (.methodLink RL 9 yX11_init : Cond) ∈ gwL := gw_at 1 (z := tables_1_1) rfl (List.mem_of_getElem? (i := 19) rfl) rfl
theorem mw_1291 : (.instanceMethod yX11_init : Cond) ∈ gwL := gw_at 1 (z := tables_1_1) rfl (List.mem_of_getElem? (i := 20) rfl) rfl
theorem mw_1292 : (.classLink RL 10 RX12 : Cond) ∈ gwL := gw_at 5 (z := tables_1_5) rfl (List.mem_of_getElem? (i := 56) rfl) rfl
theorem mw_1293 : (.instantiable RX12 55 : Cond) ∈ gwL := gw_at 5 (z := tables_1_5) rfl (List.mem_of_getElem? (i := 57) rfl) rfl
theorem mw_1294 : (.code yX12_init cX12_init 2 none : Cond) ∈ gwL := gw_at 5 (z := tables_1_5) rfl (List.mem_of_getElem? (i := 60) rfl) rfl
theorem mw_1295 : (.methodLink RL 12 yX12_init : Cond) ∈ gwL := gw_at 5 (z := tables_1_5) rfl (List.mem_of_getElem? (i := 58) rfl) rfl
theorem mw_1296 : (.instanceMethod yX12_init : Cond) ∈ gwL := gw_at 5 (z := tables_1_5) rfl (List.mem_of_getElem? (i := 59) rfl) rfl
abbrev gwX0_init : List Cond := Cond.code yX0_init cX0_init 2 none :: gwL
abbrev gwX10_init : List Cond := Cond.code yX10_init cX10_init 1 none :: gwL
abbrev gwX11_init : List Cond := Cond.code yX11_init cX11_init 2 none :: gwL
abbrev gwX12_init : List Cond := Cond.code yX12_init cX12_init 2 none :: gwL
abbrev gwX1_init : List Cond := Cond.code yX1_init cX1_init 1 none :: gwL
abbrev gwX2_init : List Cond := Cond.code yX2_init cX2_init 3 none :: gwL
abbrev gwX3_init : List Cond := Cond.code yX3_init cX3_init 1 none :: gwL
abbrev gwX4_init : List Cond := Cond.code yX4_init cX4_init 3 none :: gwL
abbrev gwX5_init : List Cond := Cond.code yX5_init cX5_init 1 none :: gwL
abbrev gwX6_init : List Cond := Cond.code yX6_init cX6_init 2 none :: gwL
abbrev gwX7_init : List Cond := Cond.code yX7_init cX7_init 1 none :: gwL
abbrev gwX8_init : List Cond := Cond.code yX8_init cX8_init 3 none :: gwL
abbrev gwX9_init : List Cond := Cond.code yX9_init cX9_init 3 none :: gwL
