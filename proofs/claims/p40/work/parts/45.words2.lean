theorem kw128 : Cond.classLink RL 7 RX8 ∈ gt := gw1 19 rfl rfl
theorem kw129 : Cond.instantiable RX8 17 ∈ gt := gw1 20 rfl rfl
theorem kw130 : Cond.methodLink RL 9 yX8_init ∈ gt := gw1 21 rfl rfl
theorem kw131 : Cond.instanceMethod yX8_init ∈ gt := gw1 22 rfl rfl
theorem kw132 : Cond.code yX8_init cX8_init 1 none ∈ gt := gw1 23 rfl rfl
theorem kw133 : Cond.methodLink RX8 1 objectInit ∈ gt := gw1 24 rfl rfl
theorem kw134 : Cond.instanceMethod objectInit ∈ gt := gw1 25 rfl rfl
theorem kw135 : Cond.code objectInit ⟨#[0xb1]⟩ 1 none ∈ gt := gw1 26 rfl rfl
theorem kw136 : Cond.classLink RX8 7 RX6 ∈ gt := gw1 27 rfl rfl
theorem kw137 : Cond.instantiable RX6 10 ∈ gt := gw1 28 rfl rfl
theorem kw139 : Cond.instanceMethod yX6_init ∈ gt := gw1 30 rfl rfl
theorem kw140 : Cond.code yX6_init cX6_init 1 none ∈ gt := gw1 31 rfl rfl
theorem kw141 : Cond.methodLink RX6 3 objectInit ∈ gt := gw1 32 rfl rfl
theorem kw142 : Cond.classLink RX6 15 RX0 ∈ gt := gw1 33 rfl rfl
theorem kw143 : Cond.instantiable RX0 9 ∈ gt := gw1 34 rfl rfl
theorem kw144 : Cond.methodLink RX6 17 yX0_init ∈ gt := gw1 35 rfl rfl
theorem kw145 : Cond.instanceMethod yX0_init ∈ gt := gw1 36 rfl rfl
theorem kw146 : Cond.code yX0_init cX0_init 5 none ∈ gt := gw1 37 rfl rfl
theorem kw147 : Cond.methodLink RX0 3 objectInit ∈ gt := gw1 38 rfl rfl
theorem kw148 : Cond.methodLink RX0 18 Lib.Math.max.name ∈ gt := gw1 39 rfl rfl
theorem kw151 : Cond.fieldLink RX0 24 "NoSecond$Code" "kind" "[I" ∈ gt := gw1 42 rfl rfl
theorem kw155 : Cond.fieldLink RX0 28 "NoSecond$Code" "times" "[I" ∈ gt := gw1 46 rfl rfl
theorem kw158 : Cond.fieldLink RX0 31 "NoSecond$Code" "sumFrom" "[I" ∈ gt := gw1 49 rfl rfl
theorem kw162 : Cond.fieldLink RX0 34 "NoSecond$Code" "testFrom" "[I" ∈ gt := gw1 53 rfl rfl
theorem kw166 : Cond.fieldLink RX0 37 "NoSecond$Code" "testTo" "[I" ∈ gt := gw1 57 rfl rfl
theorem kw200 : Cond.arrayClass .int ∈ gt := gw1 91 rfl rfl
theorem kw235 : Cond.classLink RX8 16 RX3 ∈ gt := gw1 126 rfl rfl
theorem kw236 : Cond.instantiable RX3 2 ∈ gt := gw1 127 rfl rfl
theorem kw238 : Cond.instanceMethod yX3_init ∈ gt := gw1 129 rfl rfl
theorem kw239 : Cond.code yX3_init cX3_init 1 none ∈ gt := gw1 130 rfl rfl
theorem kw240 : Cond.methodLink RX3 5 objectInit ∈ gt := gw1 131 rfl rfl
theorem kw248 : Cond.arrayClass .long ∈ gt := gw1 139 rfl rfl
theorem kw249 : Cond.classLink RX8 23 RX2 ∈ gt := gw1 140 rfl rfl
theorem kw250 : Cond.instantiable RX2 13 ∈ gt := gw1 141 rfl rfl
theorem kw252 : Cond.instanceMethod yX2_init ∈ gt := gw1 143 rfl rfl
theorem kw253 : Cond.code yX2_init cX2_init 1 none ∈ gt := gw1 144 rfl rfl
theorem kw254 : Cond.methodLink RX2 3 objectInit ∈ gt := gw1 145 rfl rfl
theorem kw255 : Cond.classLink RX2 9 RX4 ∈ gt := gw1 146 rfl rfl
theorem kw256 : Cond.instantiable RX4 5 ∈ gt := gw1 147 rfl rfl
theorem kw258 : Cond.instanceMethod yX4_init ∈ gt := gw1 149 rfl rfl
theorem kw259 : Cond.code yX4_init cX4_init 1 none ∈ gt := gw1 150 rfl rfl
theorem kw260 : Cond.methodLink RX4 3 objectInit ∈ gt := gw1 151 rfl rfl
theorem kw293 : Cond.classLink RX2 34 RX0 ∈ gt := gw1 184 rfl rfl
theorem kw357 : Cond.classLink RX8 30 RX1 ∈ gt := gw2 8 rfl rfl
theorem kw358 : Cond.instantiable RX1 5 ∈ gt := gw2 9 rfl rfl
theorem kw359 : Cond.methodLink RX8 32 yX1_init ∈ gt := gw2 10 rfl rfl
theorem kw360 : Cond.instanceMethod yX1_init ∈ gt := gw2 11 rfl rfl
theorem kw361 : Cond.code yX1_init cX1_init 3 none ∈ gt := gw2 12 rfl rfl
theorem kw362 : Cond.methodLink RX1 3 objectInit ∈ gt := gw2 13 rfl rfl
theorem kw364 : Cond.fieldLink RX7 42 "NoSecond$Court" "isles" "LNoSecond$Isles;" ∈ gt := gw2 15 rfl rfl
theorem kw380 : Cond.classLink RX8 39 RX7 ∈ gt := gw2 31 rfl rfl
theorem kw381 : Cond.instantiable RX7 10 ∈ gt := gw2 32 rfl rfl
theorem kw382 : Cond.methodLink RX8 41 yX7_init ∈ gt := gw2 33 rfl rfl
theorem kw383 : Cond.instanceMethod yX7_init ∈ gt := gw2 34 rfl rfl
theorem kw384 : Cond.code yX7_init cX7_init 2 none ∈ gt := gw2 35 rfl rfl
theorem kw385 : Cond.methodLink RX7 3 objectInit ∈ gt := gw2 36 rfl rfl
theorem kw420 : Cond.classLink RX8 58 RX5 ∈ gt := gw2 71 rfl rfl
theorem kw421 : Cond.instantiable RX5 4 ∈ gt := gw2 72 rfl rfl
theorem kw423 : Cond.instanceMethod yX5_init ∈ gt := gw2 74 rfl rfl
theorem kw424 : Cond.code yX5_init cX5_init 1 none ∈ gt := gw2 75 rfl rfl
theorem kw425 : Cond.methodLink RX5 3 objectInit ∈ gt := gw2 76 rfl rfl
theorem kw440 : Cond.classLink RX8 68 RX4 ∈ gt := gw2 91 rfl rfl
theorem kw449 : Cond.fieldLink RX8 54 "NoSecond" "images" "[LNoSecond$Isles;" ∈ gt := gw2 100 rfl rfl
theorem kw494 : Cond.methodLink RL 13 yX8_person ∈ gt := gw2 145 rfl rfl
theorem kw495 : Cond.instanceMethod yX8_person ∈ gt := gw2 146 rfl rfl
theorem kw496 : Cond.selects RX8 yX8_person yX8_person ∈ gt := gw2 147 rfl rfl
theorem kw497 : Cond.code yX8_person cX8_person 3 (some .int) ∈ gt := gw2 148 rfl rfl
theorem kw521 : Cond.methodLink RL 18 yX8_of ∈ gt := gw2 172 rfl rfl
theorem kw522 : Cond.instanceMethod yX8_of ∈ gt := gw2 173 rfl rfl
theorem kw523 : Cond.selects RX8 yX8_of yX8_of ∈ gt := gw2 174 rfl rfl
theorem kw524 : Cond.code yX8_of cX8_of 3 (some .int) ∈ gt := gw2 175 rfl rfl
theorem kw590 : Cond.methodLink RL 22 yX8_strength ∈ gt := gw3 1 rfl rfl
theorem kw591 : Cond.instanceMethod yX8_strength ∈ gt := gw3 2 rfl rfl
theorem kw592 : Cond.selects RX8 yX8_strength yX8_strength ∈ gt := gw3 3 rfl rfl
theorem kw593 : Cond.code yX8_strength cX8_strength 6 (some .int) ∈ gt := gw3 4 rfl rfl
theorem kw594 : Cond.methodLink RL 27 yX8_beats ∈ gt := gw3 5 rfl rfl
theorem kw595 : Cond.instanceMethod yX8_beats ∈ gt := gw3 6 rfl rfl
theorem kw596 : Cond.selects RX8 yX8_beats yX8_beats ∈ gt := gw3 7 rfl rfl
theorem kw597 : Cond.code yX8_beats cX8_beats 5 (some .int) ∈ gt := gw3 8 rfl rfl
theorem kw598 : Cond.methodLink RL 31 yX8_placed ∈ gt := gw3 9 rfl rfl
theorem kw599 : Cond.instanceMethod yX8_placed ∈ gt := gw3 10 rfl rfl
theorem kw600 : Cond.selects RX8 yX8_placed yX8_placed ∈ gt := gw3 11 rfl rfl
theorem kw601 : Cond.code yX8_placed cX8_placed 4 (some .int) ∈ gt := gw3 12 rfl rfl
theorem kw616 : Cond.methodLink RL 35 yX8_terms ∈ gt := gw3 27 rfl rfl
theorem kw617 : Cond.instanceMethod yX8_terms ∈ gt := gw3 28 rfl rfl
theorem kw618 : Cond.selects RX8 yX8_terms yX8_terms ∈ gt := gw3 29 rfl rfl
theorem kw619 : Cond.code yX8_terms cX8_terms 5 (some .int) ∈ gt := gw3 30 rfl rfl
theorem kw628 : Cond.methodLink RL 39 yX8_feed ∈ gt := gw3 39 rfl rfl
theorem kw629 : Cond.instanceMethod yX8_feed ∈ gt := gw3 40 rfl rfl
theorem kw630 : Cond.selects RX8 yX8_feed yX8_feed ∈ gt := gw3 41 rfl rfl
theorem kw631 : Cond.code yX8_feed cX8_feed 6 (some .int) ∈ gt := gw3 42 rfl rfl
theorem kw640 : Cond.methodLink RL 44 yX8_end ∈ gt := gw3 51 rfl rfl
theorem kw641 : Cond.instanceMethod yX8_end ∈ gt := gw3 52 rfl rfl
theorem kw642 : Cond.selects RX8 yX8_end yX8_end ∈ gt := gw3 53 rfl rfl
theorem kw643 : Cond.code yX8_end cX8_end 2 (some .int) ∈ gt := gw3 54 rfl rfl
theorem kw644 : Cond.methodLink RL 49 yX8_row ∈ gt := gw3 55 rfl rfl
theorem kw645 : Cond.instanceMethod yX8_row ∈ gt := gw3 56 rfl rfl
theorem kw646 : Cond.selects RX8 yX8_row yX8_row ∈ gt := gw3 57 rfl rfl
theorem kw647 : Cond.code yX8_row cX8_row 3 (some .int) ∈ gt := gw3 58 rfl rfl
theorem kw656 : Cond.methodLink RL 54 yX8_blots ∈ gt := gw3 67 rfl rfl
theorem kw657 : Cond.instanceMethod yX8_blots ∈ gt := gw3 68 rfl rfl
theorem kw658 : Cond.selects RX8 yX8_blots yX8_blots ∈ gt := gw3 69 rfl rfl
theorem kw659 : Cond.code yX8_blots cX8_blots 1 (some .int) ∈ gt := gw3 70 rfl rfl
theorem kw660 : Cond.methodLink RL 58 yX8_law ∈ gt := gw3 71 rfl rfl
theorem kw661 : Cond.instanceMethod yX8_law ∈ gt := gw3 72 rfl rfl
theorem kw662 : Cond.selects RX8 yX8_law yX8_law ∈ gt := gw3 73 rfl rfl
theorem kw663 : Cond.code yX8_law cX8_law 2 (some .int) ∈ gt := gw3 74 rfl rfl
theorem kw804 : Cond.methodLink RX8 187 yX0_kept ∈ gt := gw3 215 rfl rfl
theorem kw805 : Cond.instanceMethod yX0_kept ∈ gt := gw3 216 rfl rfl
theorem kw806 : Cond.selects RX0 yX0_kept yX0_kept ∈ gt := gw3 217 rfl rfl
theorem kw807 : Cond.code yX0_kept cX0_kept 2 (some (.object "NoSecond$Code")) ∈ gt := gw3 218 rfl rfl
theorem kw808 : Cond.classLink RX0 10 RX0 ∈ gt := gw3 219 rfl rfl
theorem kw809 : Cond.methodLink RX0 46 yX0_init ∈ gt := gw3 220 rfl rfl
theorem kw810 : Cond.methodLink RX0 49 arraycopyName ∈ gt := gw3 221 rfl rfl
theorem kw813 : Cond.methodLink RX8 192 yX2_addLaw ∈ gt := gw3 224 rfl rfl
theorem kw814 : Cond.instanceMethod yX2_addLaw ∈ gt := gw3 225 rfl rfl
theorem kw815 : Cond.selects RX2 yX2_addLaw yX2_addLaw ∈ gt := gw3 226 rfl rfl
theorem kw816 : Cond.code yX2_addLaw cX2_addLaw 2 (some .int) ∈ gt := gw3 227 rfl rfl
theorem kw818 : Cond.methodLink RL 62 yX8_orders ∈ gt := gw3 229 rfl rfl
theorem kw819 : Cond.instanceMethod yX8_orders ∈ gt := gw3 230 rfl rfl
theorem kw820 : Cond.selects RX8 yX8_orders yX8_orders ∈ gt := gw3 231 rfl rfl
theorem kw821 : Cond.code yX8_orders cX8_orders 5 (some .int) ∈ gt := gw3 232 rfl rfl
theorem kw898 : Cond.methodLink RL 66 yX8_fault ∈ gt := gw4 69 rfl rfl
theorem kw899 : Cond.instanceMethod yX8_fault ∈ gt := gw4 70 rfl rfl
theorem kw900 : Cond.selects RX8 yX8_fault yX8_fault ∈ gt := gw4 71 rfl rfl
theorem kw901 : Cond.code yX8_fault cX8_fault 1 (some .int) ∈ gt := gw4 72 rfl rfl
theorem kw902 : Cond.methodLink RL 70 yX8_stopped ∈ gt := gw4 73 rfl rfl
theorem kw903 : Cond.instanceMethod yX8_stopped ∈ gt := gw4 74 rfl rfl
theorem kw904 : Cond.selects RX8 yX8_stopped yX8_stopped ∈ gt := gw4 75 rfl rfl
theorem kw905 : Cond.code yX8_stopped cX8_stopped 1 (some .int) ∈ gt := gw4 76 rfl rfl
theorem kw906 : Cond.methodLink RL 74 yX8_force ∈ gt := gw4 77 rfl rfl
theorem kw907 : Cond.instanceMethod yX8_force ∈ gt := gw4 78 rfl rfl
theorem kw908 : Cond.selects RX8 yX8_force yX8_force ∈ gt := gw4 79 rfl rfl
theorem kw909 : Cond.code yX8_force cX8_force 3 (some .int) ∈ gt := gw4 80 rfl rfl
theorem kw911 : Cond.methodLink RL 78 yX8_race ∈ gt := gw4 82 rfl rfl
theorem kw912 : Cond.instanceMethod yX8_race ∈ gt := gw4 83 rfl rfl
theorem kw913 : Cond.selects RX8 yX8_race yX8_race ∈ gt := gw4 84 rfl rfl
theorem kw914 : Cond.code yX8_race cX8_race 2 (some .int) ∈ gt := gw4 85 rfl rfl
theorem kw919 : Cond.methodLink RL 82 yX8_enter ∈ gt := gw4 90 rfl rfl
theorem kw920 : Cond.instanceMethod yX8_enter ∈ gt := gw4 91 rfl rfl
theorem kw921 : Cond.selects RX8 yX8_enter yX8_enter ∈ gt := gw4 92 rfl rfl
theorem kw922 : Cond.code yX8_enter cX8_enter 2 (some .int) ∈ gt := gw4 93 rfl rfl
theorem kw923 : Cond.methodLink RL 86 yX8_take ∈ gt := gw4 94 rfl rfl
theorem kw924 : Cond.instanceMethod yX8_take ∈ gt := gw4 95 rfl rfl
theorem kw925 : Cond.selects RX8 yX8_take yX8_take ∈ gt := gw4 96 rfl rfl
theorem kw926 : Cond.code yX8_take cX8_take 2 (some .int) ∈ gt := gw4 97 rfl rfl
theorem kw927 : Cond.methodLink RL 90 yX8_pass ∈ gt := gw4 98 rfl rfl
theorem kw928 : Cond.instanceMethod yX8_pass ∈ gt := gw4 99 rfl rfl
theorem kw929 : Cond.selects RX8 yX8_pass yX8_pass ∈ gt := gw4 100 rfl rfl
theorem kw930 : Cond.code yX8_pass cX8_pass 1 (some .int) ∈ gt := gw4 101 rfl rfl
theorem kw931 : Cond.methodLink RL 94 yX8_undo ∈ gt := gw4 102 rfl rfl
theorem kw932 : Cond.instanceMethod yX8_undo ∈ gt := gw4 103 rfl rfl
theorem kw933 : Cond.selects RX8 yX8_undo yX8_undo ∈ gt := gw4 104 rfl rfl
theorem kw934 : Cond.code yX8_undo cX8_undo 1 (some .int) ∈ gt := gw4 105 rfl rfl
theorem kw943 : Cond.methodLink RL 98 yX8_be ∈ gt := gw4 114 rfl rfl
theorem kw944 : Cond.instanceMethod yX8_be ∈ gt := gw4 115 rfl rfl
theorem kw945 : Cond.selects RX8 yX8_be yX8_be ∈ gt := gw4 116 rfl rfl
theorem kw946 : Cond.code yX8_be cX8_be 6 (some .int) ∈ gt := gw4 117 rfl rfl
theorem kw967 : Cond.methodLink RL 103 yX8_seen ∈ gt := gw4 138 rfl rfl
theorem kw968 : Cond.instanceMethod yX8_seen ∈ gt := gw4 139 rfl rfl
theorem kw969 : Cond.selects RX8 yX8_seen yX8_seen ∈ gt := gw4 140 rfl rfl
theorem kw970 : Cond.code yX8_seen cX8_seen 3 (some .int) ∈ gt := gw4 141 rfl rfl
theorem kw975 : Cond.methodLink RL 107 yX8_forget ∈ gt := gw4 146 rfl rfl
theorem kw976 : Cond.instanceMethod yX8_forget ∈ gt := gw4 147 rfl rfl
theorem kw977 : Cond.selects RX8 yX8_forget yX8_forget ∈ gt := gw4 148 rfl rfl
theorem kw978 : Cond.code yX8_forget cX8_forget 2 (some .int) ∈ gt := gw4 149 rfl rfl
theorem kw979 : Cond.methodLink RL 111 yX8_canBe ∈ gt := gw4 150 rfl rfl
theorem kw980 : Cond.instanceMethod yX8_canBe ∈ gt := gw4 151 rfl rfl
theorem kw981 : Cond.selects RX8 yX8_canBe yX8_canBe ∈ gt := gw4 152 rfl rfl
theorem kw982 : Cond.code yX8_canBe cX8_canBe 1 (some .int) ∈ gt := gw4 153 rfl rfl
theorem kw992 : Cond.methodLink RL 115 yX8_look ∈ gt := gw4 163 rfl rfl
theorem kw993 : Cond.instanceMethod yX8_look ∈ gt := gw4 164 rfl rfl
theorem kw994 : Cond.selects RX8 yX8_look yX8_look ∈ gt := gw4 165 rfl rfl
theorem kw995 : Cond.code yX8_look cX8_look 3 (some .int) ∈ gt := gw4 166 rfl rfl
theorem kw1009 : Cond.methodLink RL 119 yX8_ranking ∈ gt := gw4 180 rfl rfl
theorem kw1010 : Cond.instanceMethod yX8_ranking ∈ gt := gw4 181 rfl rfl
theorem kw1011 : Cond.selects RX8 yX8_ranking yX8_ranking ∈ gt := gw4 182 rfl rfl
theorem kw1012 : Cond.code yX8_ranking cX8_ranking 3 (some .int) ∈ gt := gw4 183 rfl rfl
theorem kw1026 : Cond.methodLink RL 123 yX8_circles ∈ gt := gw4 197 rfl rfl
theorem kw1027 : Cond.instanceMethod yX8_circles ∈ gt := gw4 198 rfl rfl
theorem kw1028 : Cond.selects RX8 yX8_circles yX8_circles ∈ gt := gw4 199 rfl rfl
theorem kw1029 : Cond.code yX8_circles cX8_circles 1 (some .int) ∈ gt := gw4 200 rfl rfl
theorem kw1038 : Cond.methodLink RL 127 yX8_crowned ∈ gt := gw4 209 rfl rfl
theorem kw1039 : Cond.instanceMethod yX8_crowned ∈ gt := gw4 210 rfl rfl
theorem kw1040 : Cond.selects RX8 yX8_crowned yX8_crowned ∈ gt := gw4 211 rfl rfl
theorem kw1041 : Cond.code yX8_crowned cX8_crowned 3 (some .int) ∈ gt := gw4 212 rfl rfl
theorem kw1058 : Cond.methodLink RL 131 yX8_heir ∈ gt := gw4 229 rfl rfl
theorem kw1059 : Cond.instanceMethod yX8_heir ∈ gt := gw4 230 rfl rfl
theorem kw1060 : Cond.selects RX8 yX8_heir yX8_heir ∈ gt := gw4 231 rfl rfl
theorem kw1061 : Cond.code yX8_heir cX8_heir 3 (some .int) ∈ gt := gw4 232 rfl rfl
theorem kw1074 : Cond.methodLink RL 135 yX8_ladder ∈ gt := gw5 5 rfl rfl
theorem kw1075 : Cond.instanceMethod yX8_ladder ∈ gt := gw5 6 rfl rfl
theorem kw1076 : Cond.selects RX8 yX8_ladder yX8_ladder ∈ gt := gw5 7 rfl rfl
theorem kw1077 : Cond.code yX8_ladder cX8_ladder 3 (some .long) ∈ gt := gw5 8 rfl rfl
theorem kw1084 : Cond.methodLink RL 140 yX8_never ∈ gt := gw5 15 rfl rfl
theorem kw1085 : Cond.instanceMethod yX8_never ∈ gt := gw5 16 rfl rfl
theorem kw1086 : Cond.selects RX8 yX8_never yX8_never ∈ gt := gw5 17 rfl rfl
theorem kw1087 : Cond.code yX8_never cX8_never 1 (some .int) ∈ gt := gw5 18 rfl rfl
theorem kw1092 : Cond.methodLink RL 144 yX8_few ∈ gt := gw5 23 rfl rfl
theorem kw1093 : Cond.instanceMethod yX8_few ∈ gt := gw5 24 rfl rfl
theorem kw1094 : Cond.selects RX8 yX8_few yX8_few ∈ gt := gw5 25 rfl rfl
theorem kw1095 : Cond.code yX8_few cX8_few 3 (some .long) ∈ gt := gw5 26 rfl rfl
theorem kw1105 : Cond.methodLink RL 148 yX8_compare ∈ gt := gw5 36 rfl rfl
theorem kw1106 : Cond.instanceMethod yX8_compare ∈ gt := gw5 37 rfl rfl
theorem kw1107 : Cond.selects RX8 yX8_compare yX8_compare ∈ gt := gw5 38 rfl rfl
theorem kw1108 : Cond.code yX8_compare cX8_compare 3 (some .int) ∈ gt := gw5 39 rfl rfl
theorem kw1110 : Cond.methodLink RL 152 yX8_centuries ∈ gt := gw5 41 rfl rfl
theorem kw1111 : Cond.instanceMethod yX8_centuries ∈ gt := gw5 42 rfl rfl
theorem kw1112 : Cond.selects RX8 yX8_centuries yX8_centuries ∈ gt := gw5 43 rfl rfl
theorem kw1113 : Cond.code yX8_centuries cX8_centuries 10 (some .int) ∈ gt := gw5 44 rfl rfl
theorem kw1127 : Cond.methodLink RL 156 yX8_drawn ∈ gt := gw5 58 rfl rfl
theorem kw1128 : Cond.instanceMethod yX8_drawn ∈ gt := gw5 59 rfl rfl
theorem kw1129 : Cond.selects RX8 yX8_drawn yX8_drawn ∈ gt := gw5 60 rfl rfl
theorem kw1130 : Cond.code yX8_drawn cX8_drawn 3 (some .int) ∈ gt := gw5 61 rfl rfl
theorem kw1131 : Cond.methodLink RL 160 yX8_image ∈ gt := gw5 62 rfl rfl
theorem kw1132 : Cond.instanceMethod yX8_image ∈ gt := gw5 63 rfl rfl
theorem kw1133 : Cond.selects RX8 yX8_image yX8_image ∈ gt := gw5 64 rfl rfl
theorem kw1134 : Cond.code yX8_image cX8_image 2 (some .int) ∈ gt := gw5 65 rfl rfl
theorem kw1135 : Cond.methodLink RL 164 yX8_back ∈ gt := gw5 66 rfl rfl
theorem kw1136 : Cond.instanceMethod yX8_back ∈ gt := gw5 67 rfl rfl
theorem kw1137 : Cond.selects RX8 yX8_back yX8_back ∈ gt := gw5 68 rfl rfl
theorem kw1138 : Cond.code yX8_back cX8_back 2 (some .int) ∈ gt := gw5 69 rfl rfl
theorem kw1139 : Cond.methodLink RL 168 yX8_count ∈ gt := gw5 70 rfl rfl
theorem kw1140 : Cond.instanceMethod yX8_count ∈ gt := gw5 71 rfl rfl
theorem kw1141 : Cond.selects RX8 yX8_count yX8_count ∈ gt := gw5 72 rfl rfl
theorem kw1142 : Cond.code yX8_count cX8_count 2 (some .int) ∈ gt := gw5 73 rfl rfl
theorem kw1147 : Cond.methodLink RL 172 yX8_status ∈ gt := gw5 78 rfl rfl
theorem kw1148 : Cond.instanceMethod yX8_status ∈ gt := gw5 79 rfl rfl
theorem kw1149 : Cond.selects RX8 yX8_status yX8_status ∈ gt := gw5 80 rfl rfl
theorem kw1150 : Cond.code yX8_status cX8_status 1 (some .int) ∈ gt := gw5 81 rfl rfl
theorem kw1151 : Cond.classLink RL 10 RX9 ∈ gt := gw5 82 rfl rfl
theorem kw1152 : Cond.instantiable RX9 63 ∈ gt := gw5 83 rfl rfl
theorem kw1153 : Cond.methodLink RL 12 yX9_init ∈ gt := gw5 84 rfl rfl
theorem kw1154 : Cond.instanceMethod yX9_init ∈ gt := gw5 85 rfl rfl
theorem kw1155 : Cond.code yX9_init cX9_init 1 none ∈ gt := gw5 86 rfl rfl
theorem kw1156 : Cond.methodLink RX9 1 objectInit ∈ gt := gw5 87 rfl rfl
theorem kw1157 : Cond.constantLong RX9 57 (542723566) ∈ gt := gw5 88 rfl rfl
theorem kw1158 : Cond.constantLong RX9 59 (590949) ∈ gt := gw5 89 rfl rfl
theorem kw1159 : Cond.constantLong RX9 61 (674919554696) ∈ gt := gw5 90 rfl rfl
theorem kw1160 : Cond.constantLong RX9 63 (21562501) ∈ gt := gw5 91 rfl rfl
theorem kw1161 : Cond.constantLong RX9 65 (556066995) ∈ gt := gw5 92 rfl rfl
theorem kw1162 : Cond.constantLong RX9 67 (17171557) ∈ gt := gw5 93 rfl rfl
theorem kw1163 : Cond.constantLong RX9 69 (7216) ∈ gt := gw5 94 rfl rfl
theorem kw1164 : Cond.constantLong RX9 71 (824370) ∈ gt := gw5 95 rfl rfl
theorem kw1165 : Cond.constantLong RX9 73 (441828) ∈ gt := gw5 96 rfl rfl
theorem kw1166 : Cond.constantLong RX9 79 (146885) ∈ gt := gw5 97 rfl rfl
theorem kw1167 : Cond.constantLong RX9 81 (404362868) ∈ gt := gw5 98 rfl rfl
theorem kw1168 : Cond.constantLong RX9 83 (5859625124) ∈ gt := gw5 99 rfl rfl
theorem kw1169 : Cond.constantLong RX9 88 (611795) ∈ gt := gw5 100 rfl rfl
theorem kw1170 : Cond.constantLong RX9 90 (21678547) ∈ gt := gw5 101 rfl rfl
theorem kw1171 : Cond.constantLong RX9 92 (763347) ∈ gt := gw5 102 rfl rfl
theorem kw1172 : Cond.constantLong RX9 94 (67155) ∈ gt := gw5 103 rfl rfl
theorem kw1173 : Cond.constantLong RX9 144 (5722290) ∈ gt := gw5 104 rfl rfl
theorem kw1174 : Cond.constantLong RX9 146 (656741) ∈ gt := gw5 105 rfl rfl
theorem kw1175 : Cond.constantLong RX9 148 (525939) ∈ gt := gw5 106 rfl rfl
theorem kw1366 : Cond.arrayClass .boolean ∈ gt := gw6 57 rfl rfl
theorem kw1367 : Cond.methodLink RL 97 yX9_undo ∈ gt := gw6 58 rfl rfl
theorem kw1368 : Cond.instanceMethod yX9_undo ∈ gt := gw6 59 rfl rfl
theorem kw1369 : Cond.selects RX9 yX9_undo yX9_undo ∈ gt := gw6 60 rfl rfl
theorem kw1370 : Cond.code yX9_undo cX9_undo 1 (some .int) ∈ gt := gw6 61 rfl rfl
theorem kw1379 : Cond.methodLink RL 163 yX9_image ∈ gt := gw6 70 rfl rfl
theorem kw1380 : Cond.instanceMethod yX9_image ∈ gt := gw6 71 rfl rfl
theorem kw1381 : Cond.selects RX9 yX9_image yX9_image ∈ gt := gw6 72 rfl rfl
theorem kw1382 : Cond.code yX9_image cX9_image 3 (some .int) ∈ gt := gw6 73 rfl rfl
theorem kw1386 : Cond.methodLink RL 167 yX9_back ∈ gt := gw6 77 rfl rfl
theorem kw1387 : Cond.instanceMethod yX9_back ∈ gt := gw6 78 rfl rfl
theorem kw1388 : Cond.selects RX9 yX9_back yX9_back ∈ gt := gw6 79 rfl rfl
theorem kw1389 : Cond.code yX9_back cX9_back 3 (some .int) ∈ gt := gw6 80 rfl rfl
theorem kw1394 : Cond.methodLink RL 17 yX9_person ∈ gt := gw6 85 rfl rfl
theorem kw1395 : Cond.instanceMethod yX9_person ∈ gt := gw6 86 rfl rfl
theorem kw1396 : Cond.selects RX9 yX9_person yX9_person ∈ gt := gw6 87 rfl rfl
theorem kw1397 : Cond.code yX9_person cX9_person 5 (some .int) ∈ gt := gw6 88 rfl rfl
theorem kw1403 : Cond.methodLink RL 21 yX9_of ∈ gt := gw6 94 rfl rfl
theorem kw1404 : Cond.instanceMethod yX9_of ∈ gt := gw6 95 rfl rfl
theorem kw1405 : Cond.selects RX9 yX9_of yX9_of ∈ gt := gw6 96 rfl rfl
theorem kw1406 : Cond.code yX9_of cX9_of 4 (some .int) ∈ gt := gw6 97 rfl rfl
theorem kw1438 : Cond.methodLink RL 26 yX9_strength ∈ gt := gw6 129 rfl rfl
theorem kw1439 : Cond.instanceMethod yX9_strength ∈ gt := gw6 130 rfl rfl
theorem kw1440 : Cond.selects RX9 yX9_strength yX9_strength ∈ gt := gw6 131 rfl rfl
theorem kw1441 : Cond.code yX9_strength cX9_strength 4 (some .int) ∈ gt := gw6 132 rfl rfl
theorem kw1450 : Cond.methodLink RL 30 yX9_beats ∈ gt := gw6 141 rfl rfl
theorem kw1451 : Cond.instanceMethod yX9_beats ∈ gt := gw6 142 rfl rfl
theorem kw1452 : Cond.selects RX9 yX9_beats yX9_beats ∈ gt := gw6 143 rfl rfl
theorem kw1453 : Cond.code yX9_beats cX9_beats 5 (some .int) ∈ gt := gw6 144 rfl rfl
theorem kw1454 : Cond.methodLink RL 34 yX9_placed ∈ gt := gw6 145 rfl rfl
theorem kw1455 : Cond.instanceMethod yX9_placed ∈ gt := gw6 146 rfl rfl
theorem kw1456 : Cond.selects RX9 yX9_placed yX9_placed ∈ gt := gw6 147 rfl rfl
theorem kw1457 : Cond.code yX9_placed cX9_placed 3 (some .int) ∈ gt := gw6 148 rfl rfl
theorem kw1463 : Cond.methodLink RL 38 yX9_terms ∈ gt := gw6 154 rfl rfl
theorem kw1464 : Cond.instanceMethod yX9_terms ∈ gt := gw6 155 rfl rfl
theorem kw1465 : Cond.selects RX9 yX9_terms yX9_terms ∈ gt := gw6 156 rfl rfl
theorem kw1466 : Cond.code yX9_terms cX9_terms 4 (some .int) ∈ gt := gw6 157 rfl rfl
theorem kw1469 : Cond.methodLink RL 53 yX9_row ∈ gt := gw6 160 rfl rfl
theorem kw1470 : Cond.instanceMethod yX9_row ∈ gt := gw6 161 rfl rfl
theorem kw1471 : Cond.selects RX9 yX9_row yX9_row ∈ gt := gw6 162 rfl rfl
theorem kw1472 : Cond.code yX9_row cX9_row 5 (some .int) ∈ gt := gw6 163 rfl rfl
theorem kw1477 : Cond.methodLink RL 57 yX9_blots ∈ gt := gw6 168 rfl rfl
theorem kw1478 : Cond.instanceMethod yX9_blots ∈ gt := gw6 169 rfl rfl
theorem kw1479 : Cond.selects RX9 yX9_blots yX9_blots ∈ gt := gw6 170 rfl rfl
theorem kw1480 : Cond.code yX9_blots cX9_blots 1 (some .int) ∈ gt := gw6 171 rfl rfl
theorem kw1481 : Cond.methodLink RL 43 yX9_feed ∈ gt := gw6 172 rfl rfl
theorem kw1482 : Cond.instanceMethod yX9_feed ∈ gt := gw6 173 rfl rfl
theorem kw1483 : Cond.selects RX9 yX9_feed yX9_feed ∈ gt := gw6 174 rfl rfl
theorem kw1484 : Cond.code yX9_feed cX9_feed 6 (some .int) ∈ gt := gw6 175 rfl rfl
theorem kw1489 : Cond.methodLink RL 48 yX9_end ∈ gt := gw6 180 rfl rfl
theorem kw1490 : Cond.instanceMethod yX9_end ∈ gt := gw6 181 rfl rfl
theorem kw1491 : Cond.selects RX9 yX9_end yX9_end ∈ gt := gw6 182 rfl rfl
theorem kw1492 : Cond.code yX9_end cX9_end 2 (some .int) ∈ gt := gw6 183 rfl rfl
theorem kw1493 : Cond.methodLink RL 69 yX9_fault ∈ gt := gw6 184 rfl rfl
theorem kw1494 : Cond.instanceMethod yX9_fault ∈ gt := gw6 185 rfl rfl
theorem kw1495 : Cond.selects RX9 yX9_fault yX9_fault ∈ gt := gw6 186 rfl rfl
theorem kw1496 : Cond.code yX9_fault cX9_fault 1 (some .int) ∈ gt := gw6 187 rfl rfl
theorem kw1497 : Cond.methodLink RL 61 yX9_law ∈ gt := gw6 188 rfl rfl
theorem kw1498 : Cond.instanceMethod yX9_law ∈ gt := gw6 189 rfl rfl
theorem kw1499 : Cond.selects RX9 yX9_law yX9_law ∈ gt := gw6 190 rfl rfl
theorem kw1500 : Cond.code yX9_law cX9_law 3 (some .int) ∈ gt := gw6 191 rfl rfl
theorem kw1616 : Cond.methodLink RL 77 yX9_force ∈ gt := gw7 67 rfl rfl
theorem kw1617 : Cond.instanceMethod yX9_force ∈ gt := gw7 68 rfl rfl
theorem kw1618 : Cond.selects RX9 yX9_force yX9_force ∈ gt := gw7 69 rfl rfl
theorem kw1619 : Cond.code yX9_force cX9_force 2 (some .int) ∈ gt := gw7 70 rfl rfl
theorem kw1624 : Cond.methodLink RL 81 yX9_race ∈ gt := gw7 75 rfl rfl
theorem kw1625 : Cond.instanceMethod yX9_race ∈ gt := gw7 76 rfl rfl
theorem kw1626 : Cond.selects RX9 yX9_race yX9_race ∈ gt := gw7 77 rfl rfl
theorem kw1627 : Cond.code yX9_race cX9_race 2 (some .int) ∈ gt := gw7 78 rfl rfl
theorem kw1653 : Cond.methodLink RL 85 yX9_enter ∈ gt := gw7 104 rfl rfl
theorem kw1654 : Cond.instanceMethod yX9_enter ∈ gt := gw7 105 rfl rfl
theorem kw1655 : Cond.selects RX9 yX9_enter yX9_enter ∈ gt := gw7 106 rfl rfl
theorem kw1656 : Cond.code yX9_enter cX9_enter 2 (some .int) ∈ gt := gw7 107 rfl rfl
theorem kw1661 : Cond.methodLink RL 89 yX9_take ∈ gt := gw7 112 rfl rfl
theorem kw1662 : Cond.instanceMethod yX9_take ∈ gt := gw7 113 rfl rfl
theorem kw1663 : Cond.selects RX9 yX9_take yX9_take ∈ gt := gw7 114 rfl rfl
theorem kw1664 : Cond.code yX9_take cX9_take 2 (some .int) ∈ gt := gw7 115 rfl rfl
theorem kw1673 : Cond.methodLink RL 93 yX9_pass ∈ gt := gw7 124 rfl rfl
theorem kw1674 : Cond.instanceMethod yX9_pass ∈ gt := gw7 125 rfl rfl
theorem kw1675 : Cond.selects RX9 yX9_pass yX9_pass ∈ gt := gw7 126 rfl rfl
theorem kw1676 : Cond.code yX9_pass cX9_pass 1 (some .int) ∈ gt := gw7 127 rfl rfl
theorem kw1689 : Cond.methodLink RL 102 yX9_be ∈ gt := gw7 140 rfl rfl
theorem kw1690 : Cond.instanceMethod yX9_be ∈ gt := gw7 141 rfl rfl
theorem kw1691 : Cond.selects RX9 yX9_be yX9_be ∈ gt := gw7 142 rfl rfl
theorem kw1692 : Cond.code yX9_be cX9_be 10 (some .int) ∈ gt := gw7 143 rfl rfl
theorem kw1712 : Cond.methodLink RL 106 yX9_seen ∈ gt := gw7 163 rfl rfl
theorem kw1713 : Cond.instanceMethod yX9_seen ∈ gt := gw7 164 rfl rfl
theorem kw1714 : Cond.selects RX9 yX9_seen yX9_seen ∈ gt := gw7 165 rfl rfl
theorem kw1715 : Cond.code yX9_seen cX9_seen 4 (some .int) ∈ gt := gw7 166 rfl rfl
theorem kw1716 : Cond.methodLink RL 110 yX9_forget ∈ gt := gw7 167 rfl rfl
theorem kw1717 : Cond.instanceMethod yX9_forget ∈ gt := gw7 168 rfl rfl
theorem kw1718 : Cond.selects RX9 yX9_forget yX9_forget ∈ gt := gw7 169 rfl rfl
theorem kw1719 : Cond.code yX9_forget cX9_forget 2 (some .int) ∈ gt := gw7 170 rfl rfl
theorem kw1720 : Cond.methodLink RL 114 yX9_canBe ∈ gt := gw7 171 rfl rfl
theorem kw1721 : Cond.instanceMethod yX9_canBe ∈ gt := gw7 172 rfl rfl
theorem kw1722 : Cond.selects RX9 yX9_canBe yX9_canBe ∈ gt := gw7 173 rfl rfl
theorem kw1723 : Cond.code yX9_canBe cX9_canBe 1 (some .int) ∈ gt := gw7 174 rfl rfl
theorem kw1728 : Cond.methodLink RL 118 yX9_look ∈ gt := gw7 179 rfl rfl
theorem kw1729 : Cond.instanceMethod yX9_look ∈ gt := gw7 180 rfl rfl
theorem kw1730 : Cond.selects RX9 yX9_look yX9_look ∈ gt := gw7 181 rfl rfl
theorem kw1731 : Cond.code yX9_look cX9_look 9 (some .int) ∈ gt := gw7 182 rfl rfl
theorem kw1732 : Cond.methodLink RL 122 yX9_ranking ∈ gt := gw7 183 rfl rfl
theorem kw1733 : Cond.instanceMethod yX9_ranking ∈ gt := gw7 184 rfl rfl
theorem kw1734 : Cond.selects RX9 yX9_ranking yX9_ranking ∈ gt := gw7 185 rfl rfl
theorem kw1735 : Cond.code yX9_ranking cX9_ranking 5 (some .int) ∈ gt := gw7 186 rfl rfl
theorem kw1744 : Cond.methodLink RL 126 yX9_circles ∈ gt := gw7 195 rfl rfl
theorem kw1745 : Cond.instanceMethod yX9_circles ∈ gt := gw7 196 rfl rfl
theorem kw1746 : Cond.selects RX9 yX9_circles yX9_circles ∈ gt := gw7 197 rfl rfl
theorem kw1747 : Cond.code yX9_circles cX9_circles 5 (some .int) ∈ gt := gw7 198 rfl rfl
theorem kw1748 : Cond.methodLink RL 130 yX9_crowned ∈ gt := gw7 199 rfl rfl
theorem kw1749 : Cond.instanceMethod yX9_crowned ∈ gt := gw7 200 rfl rfl
theorem kw1750 : Cond.selects RX9 yX9_crowned yX9_crowned ∈ gt := gw7 201 rfl rfl
theorem kw1751 : Cond.code yX9_crowned cX9_crowned 3 (some .int) ∈ gt := gw7 202 rfl rfl
theorem kw1764 : Cond.methodLink RL 134 yX9_heir ∈ gt := gw7 215 rfl rfl
theorem kw1765 : Cond.instanceMethod yX9_heir ∈ gt := gw7 216 rfl rfl
theorem kw1766 : Cond.selects RX9 yX9_heir yX9_heir ∈ gt := gw7 217 rfl rfl
theorem kw1767 : Cond.code yX9_heir cX9_heir 3 (some .int) ∈ gt := gw7 218 rfl rfl
theorem kw1776 : Cond.methodLink RL 139 yX9_ladder ∈ gt := gw7 227 rfl rfl
theorem kw1777 : Cond.instanceMethod yX9_ladder ∈ gt := gw7 228 rfl rfl
theorem kw1778 : Cond.selects RX9 yX9_ladder yX9_ladder ∈ gt := gw7 229 rfl rfl
theorem kw1779 : Cond.code yX9_ladder cX9_ladder 5 (some .long) ∈ gt := gw7 230 rfl rfl
theorem kw1782 : Cond.methodLink RL 143 yX9_never ∈ gt := gw7 233 rfl rfl
theorem kw1783 : Cond.instanceMethod yX9_never ∈ gt := gw7 234 rfl rfl
theorem kw1784 : Cond.selects RX9 yX9_never yX9_never ∈ gt := gw7 235 rfl rfl
theorem kw1785 : Cond.code yX9_never cX9_never 4 (some .int) ∈ gt := gw7 236 rfl rfl
theorem kw1786 : Cond.methodLink RL 147 yX9_few ∈ gt := gw7 237 rfl rfl
theorem kw1787 : Cond.instanceMethod yX9_few ∈ gt := gw7 238 rfl rfl
theorem kw1788 : Cond.selects RX9 yX9_few yX9_few ∈ gt := gw7 239 rfl rfl
theorem kw1789 : Cond.code yX9_few cX9_few 8 (some .long) ∈ gt := gw8 0 rfl rfl
theorem kw1792 : Cond.methodLink RL 151 yX9_compare ∈ gt := gw8 3 rfl rfl
theorem kw1793 : Cond.instanceMethod yX9_compare ∈ gt := gw8 4 rfl rfl
theorem kw1794 : Cond.selects RX9 yX9_compare yX9_compare ∈ gt := gw8 5 rfl rfl
theorem kw1795 : Cond.code yX9_compare cX9_compare 4 (some .int) ∈ gt := gw8 6 rfl rfl
theorem kw1796 : Cond.methodLink RL 65 yX9_orders ∈ gt := gw8 7 rfl rfl
theorem kw1797 : Cond.instanceMethod yX9_orders ∈ gt := gw8 8 rfl rfl
theorem kw1798 : Cond.selects RX9 yX9_orders yX9_orders ∈ gt := gw8 9 rfl rfl
theorem kw1799 : Cond.code yX9_orders cX9_orders 4 (some .int) ∈ gt := gw8 10 rfl rfl
theorem kw1833 : Cond.methodLink RL 73 yX9_stopped ∈ gt := gw8 44 rfl rfl
theorem kw1834 : Cond.instanceMethod yX9_stopped ∈ gt := gw8 45 rfl rfl
theorem kw1835 : Cond.selects RX9 yX9_stopped yX9_stopped ∈ gt := gw8 46 rfl rfl
theorem kw1836 : Cond.code yX9_stopped cX9_stopped 1 (some .int) ∈ gt := gw8 47 rfl rfl
theorem kw1837 : Cond.methodLink RL 155 yX9_centuries ∈ gt := gw8 48 rfl rfl
theorem kw1838 : Cond.instanceMethod yX9_centuries ∈ gt := gw8 49 rfl rfl
theorem kw1839 : Cond.selects RX9 yX9_centuries yX9_centuries ∈ gt := gw8 50 rfl rfl
theorem kw1840 : Cond.code yX9_centuries cX9_centuries 8 (some .int) ∈ gt := gw8 51 rfl rfl
theorem kw1848 : Cond.methodLink RL 159 yX9_drawn ∈ gt := gw8 59 rfl rfl
theorem kw1849 : Cond.instanceMethod yX9_drawn ∈ gt := gw8 60 rfl rfl
theorem kw1850 : Cond.selects RX9 yX9_drawn yX9_drawn ∈ gt := gw8 61 rfl rfl
theorem kw1851 : Cond.code yX9_drawn cX9_drawn 3 (some .int) ∈ gt := gw8 62 rfl rfl
theorem kw1853 : Cond.methodLink RL 171 yX9_count ∈ gt := gw8 64 rfl rfl
theorem kw1854 : Cond.instanceMethod yX9_count ∈ gt := gw8 65 rfl rfl
theorem kw1855 : Cond.selects RX9 yX9_count yX9_count ∈ gt := gw8 66 rfl rfl
theorem kw1856 : Cond.code yX9_count cX9_count 2 (some .int) ∈ gt := gw8 67 rfl rfl
theorem kw1859 : Cond.methodLink RL 175 yX9_status ∈ gt := gw8 70 rfl rfl
theorem kw1860 : Cond.instanceMethod yX9_status ∈ gt := gw8 71 rfl rfl
theorem kw1861 : Cond.selects RX9 yX9_status yX9_status ∈ gt := gw8 72 rfl rfl
theorem kw1862 : Cond.code yX9_status cX9_status 1 (some .int) ∈ gt := gw8 73 rfl rfl
theorem hd_X0_init : yX0_init.cls ≠ "java/lang/invoke/MethodHandle" ∧ yX0_init.cls ≠ "java/lang/invoke/VarHandle" ∧ (parseMethodDescriptor yX0_init.desc).map (fun d => d.parameters.length) = some 2 := ⟨hc_5.1, hc_5.2, hp_1⟩
theorem hd_X0_kept : yX0_kept.cls ≠ "java/lang/invoke/MethodHandle" ∧ yX0_kept.cls ≠ "java/lang/invoke/VarHandle" ∧ (parseMethodDescriptor yX0_kept.desc).map (fun d => d.parameters.length) = some 0 := ⟨hc_5.1, hc_5.2, hp_22⟩
theorem hp_51 : (parseMethodDescriptor "(LNoSecond$Isles;LNoSecond$Machine;)V").map (fun d => d.parameters.length) = some 2 := by decide +kernel
theorem hd_X1_init : yX1_init.cls ≠ "java/lang/invoke/MethodHandle" ∧ yX1_init.cls ≠ "java/lang/invoke/VarHandle" ∧ (parseMethodDescriptor yX1_init.desc).map (fun d => d.parameters.length) = some 2 := ⟨hc_6.1, hc_6.2, hp_51⟩
theorem hp_52 : (parseMethodDescriptor "(LNoSecond$Code;)I").map (fun d => d.parameters.length) = some 1 := by decide +kernel
theorem hd_X2_addLaw : yX2_addLaw.cls ≠ "java/lang/invoke/MethodHandle" ∧ yX2_addLaw.cls ≠ "java/lang/invoke/VarHandle" ∧ (parseMethodDescriptor yX2_addLaw.desc).map (fun d => d.parameters.length) = some 1 := ⟨hc_7.1, hc_7.2, hp_52⟩
theorem hd_X2_init : yX2_init.cls ≠ "java/lang/invoke/MethodHandle" ∧ yX2_init.cls ≠ "java/lang/invoke/VarHandle" ∧ (parseMethodDescriptor yX2_init.desc).map (fun d => d.parameters.length) = some 0 := ⟨hc_7.1, hc_7.2, hp_11⟩
theorem hd_X3_init : yX3_init.cls ≠ "java/lang/invoke/MethodHandle" ∧ yX3_init.cls ≠ "java/lang/invoke/VarHandle" ∧ (parseMethodDescriptor yX3_init.desc).map (fun d => d.parameters.length) = some 0 := ⟨hc_8.1, hc_8.2, hp_11⟩
theorem hd_X4_init : yX4_init.cls ≠ "java/lang/invoke/MethodHandle" ∧ yX4_init.cls ≠ "java/lang/invoke/VarHandle" ∧ (parseMethodDescriptor yX4_init.desc).map (fun d => d.parameters.length) = some 0 := ⟨hc_9.1, hc_9.2, hp_11⟩
theorem hd_X5_init : yX5_init.cls ≠ "java/lang/invoke/MethodHandle" ∧ yX5_init.cls ≠ "java/lang/invoke/VarHandle" ∧ (parseMethodDescriptor yX5_init.desc).map (fun d => d.parameters.length) = some 0 := ⟨hc_10.1, hc_10.2, hp_11⟩
theorem hd_X6_init : yX6_init.cls ≠ "java/lang/invoke/MethodHandle" ∧ yX6_init.cls ≠ "java/lang/invoke/VarHandle" ∧ (parseMethodDescriptor yX6_init.desc).map (fun d => d.parameters.length) = some 0 := ⟨hc_11.1, hc_11.2, hp_11⟩
theorem hp_53 : (parseMethodDescriptor "(LNoSecond$Court;)V").map (fun d => d.parameters.length) = some 1 := by decide +kernel
theorem hd_X7_init : yX7_init.cls ≠ "java/lang/invoke/MethodHandle" ∧ yX7_init.cls ≠ "java/lang/invoke/VarHandle" ∧ (parseMethodDescriptor yX7_init.desc).map (fun d => d.parameters.length) = some 1 := ⟨hc_12.1, hc_12.2, hp_53⟩
theorem hd_X8_back : yX8_back.cls ≠ "java/lang/invoke/MethodHandle" ∧ yX8_back.cls ≠ "java/lang/invoke/VarHandle" ∧ (parseMethodDescriptor yX8_back.desc).map (fun d => d.parameters.length) = some 1 := ⟨hc_13.1, hc_13.2, hp_7⟩
theorem hp_54 : (parseMethodDescriptor "(IIII)I").map (fun d => d.parameters.length) = some 4 := by decide +kernel
theorem hd_X8_be : yX8_be.cls ≠ "java/lang/invoke/MethodHandle" ∧ yX8_be.cls ≠ "java/lang/invoke/VarHandle" ∧ (parseMethodDescriptor yX8_be.desc).map (fun d => d.parameters.length) = some 4 := ⟨hc_13.1, hc_13.2, hp_54⟩
theorem hd_X8_beats : yX8_beats.cls ≠ "java/lang/invoke/MethodHandle" ∧ yX8_beats.cls ≠ "java/lang/invoke/VarHandle" ∧ (parseMethodDescriptor yX8_beats.desc).map (fun d => d.parameters.length) = some 3 := ⟨hc_13.1, hc_13.2, hp_39⟩
theorem hd_X8_blots : yX8_blots.cls ≠ "java/lang/invoke/MethodHandle" ∧ yX8_blots.cls ≠ "java/lang/invoke/VarHandle" ∧ (parseMethodDescriptor yX8_blots.desc).map (fun d => d.parameters.length) = some 0 := ⟨hc_13.1, hc_13.2, hp_4⟩
theorem hd_X8_canBe : yX8_canBe.cls ≠ "java/lang/invoke/MethodHandle" ∧ yX8_canBe.cls ≠ "java/lang/invoke/VarHandle" ∧ (parseMethodDescriptor yX8_canBe.desc).map (fun d => d.parameters.length) = some 0 := ⟨hc_13.1, hc_13.2, hp_4⟩
theorem hd_X8_centuries : yX8_centuries.cls ≠ "java/lang/invoke/MethodHandle" ∧ yX8_centuries.cls ≠ "java/lang/invoke/VarHandle" ∧ (parseMethodDescriptor yX8_centuries.desc).map (fun d => d.parameters.length) = some 2 := ⟨hc_13.1, hc_13.2, hp_10⟩
theorem hd_X8_circles : yX8_circles.cls ≠ "java/lang/invoke/MethodHandle" ∧ yX8_circles.cls ≠ "java/lang/invoke/VarHandle" ∧ (parseMethodDescriptor yX8_circles.desc).map (fun d => d.parameters.length) = some 0 := ⟨hc_13.1, hc_13.2, hp_4⟩
theorem hd_X8_compare : yX8_compare.cls ≠ "java/lang/invoke/MethodHandle" ∧ yX8_compare.cls ≠ "java/lang/invoke/VarHandle" ∧ (parseMethodDescriptor yX8_compare.desc).map (fun d => d.parameters.length) = some 2 := ⟨hc_13.1, hc_13.2, hp_10⟩
theorem hd_X8_count : yX8_count.cls ≠ "java/lang/invoke/MethodHandle" ∧ yX8_count.cls ≠ "java/lang/invoke/VarHandle" ∧ (parseMethodDescriptor yX8_count.desc).map (fun d => d.parameters.length) = some 1 := ⟨hc_13.1, hc_13.2, hp_7⟩
theorem hd_X8_crowned : yX8_crowned.cls ≠ "java/lang/invoke/MethodHandle" ∧ yX8_crowned.cls ≠ "java/lang/invoke/VarHandle" ∧ (parseMethodDescriptor yX8_crowned.desc).map (fun d => d.parameters.length) = some 1 := ⟨hc_13.1, hc_13.2, hp_7⟩
theorem hd_X8_drawn : yX8_drawn.cls ≠ "java/lang/invoke/MethodHandle" ∧ yX8_drawn.cls ≠ "java/lang/invoke/VarHandle" ∧ (parseMethodDescriptor yX8_drawn.desc).map (fun d => d.parameters.length) = some 2 := ⟨hc_13.1, hc_13.2, hp_10⟩
theorem hd_X8_end : yX8_end.cls ≠ "java/lang/invoke/MethodHandle" ∧ yX8_end.cls ≠ "java/lang/invoke/VarHandle" ∧ (parseMethodDescriptor yX8_end.desc).map (fun d => d.parameters.length) = some 1 := ⟨hc_13.1, hc_13.2, hp_7⟩
theorem hd_X8_enter : yX8_enter.cls ≠ "java/lang/invoke/MethodHandle" ∧ yX8_enter.cls ≠ "java/lang/invoke/VarHandle" ∧ (parseMethodDescriptor yX8_enter.desc).map (fun d => d.parameters.length) = some 1 := ⟨hc_13.1, hc_13.2, hp_7⟩
theorem hd_X8_fault : yX8_fault.cls ≠ "java/lang/invoke/MethodHandle" ∧ yX8_fault.cls ≠ "java/lang/invoke/VarHandle" ∧ (parseMethodDescriptor yX8_fault.desc).map (fun d => d.parameters.length) = some 0 := ⟨hc_13.1, hc_13.2, hp_4⟩
theorem hp_55 : (parseMethodDescriptor "(IIIII)I").map (fun d => d.parameters.length) = some 5 := by decide +kernel
theorem hd_X8_feed : yX8_feed.cls ≠ "java/lang/invoke/MethodHandle" ∧ yX8_feed.cls ≠ "java/lang/invoke/VarHandle" ∧ (parseMethodDescriptor yX8_feed.desc).map (fun d => d.parameters.length) = some 5 := ⟨hc_13.1, hc_13.2, hp_55⟩
theorem hd_X8_few : yX8_few.cls ≠ "java/lang/invoke/MethodHandle" ∧ yX8_few.cls ≠ "java/lang/invoke/VarHandle" ∧ (parseMethodDescriptor yX8_few.desc).map (fun d => d.parameters.length) = some 2 := ⟨hc_13.1, hc_13.2, hp_38⟩
theorem hd_X8_force : yX8_force.cls ≠ "java/lang/invoke/MethodHandle" ∧ yX8_force.cls ≠ "java/lang/invoke/VarHandle" ∧ (parseMethodDescriptor yX8_force.desc).map (fun d => d.parameters.length) = some 1 := ⟨hc_13.1, hc_13.2, hp_7⟩
theorem hd_X8_forget : yX8_forget.cls ≠ "java/lang/invoke/MethodHandle" ∧ yX8_forget.cls ≠ "java/lang/invoke/VarHandle" ∧ (parseMethodDescriptor yX8_forget.desc).map (fun d => d.parameters.length) = some 0 := ⟨hc_13.1, hc_13.2, hp_4⟩
theorem hd_X8_heir : yX8_heir.cls ≠ "java/lang/invoke/MethodHandle" ∧ yX8_heir.cls ≠ "java/lang/invoke/VarHandle" ∧ (parseMethodDescriptor yX8_heir.desc).map (fun d => d.parameters.length) = some 1 := ⟨hc_13.1, hc_13.2, hp_7⟩
theorem hd_X8_image : yX8_image.cls ≠ "java/lang/invoke/MethodHandle" ∧ yX8_image.cls ≠ "java/lang/invoke/VarHandle" ∧ (parseMethodDescriptor yX8_image.desc).map (fun d => d.parameters.length) = some 1 := ⟨hc_13.1, hc_13.2, hp_7⟩
theorem hd_X8_init : yX8_init.cls ≠ "java/lang/invoke/MethodHandle" ∧ yX8_init.cls ≠ "java/lang/invoke/VarHandle" ∧ (parseMethodDescriptor yX8_init.desc).map (fun d => d.parameters.length) = some 0 := ⟨hc_13.1, hc_13.2, hp_11⟩
theorem hd_X8_ladder : yX8_ladder.cls ≠ "java/lang/invoke/MethodHandle" ∧ yX8_ladder.cls ≠ "java/lang/invoke/VarHandle" ∧ (parseMethodDescriptor yX8_ladder.desc).map (fun d => d.parameters.length) = some 2 := ⟨hc_13.1, hc_13.2, hp_38⟩
theorem hd_X8_law : yX8_law.cls ≠ "java/lang/invoke/MethodHandle" ∧ yX8_law.cls ≠ "java/lang/invoke/VarHandle" ∧ (parseMethodDescriptor yX8_law.desc).map (fun d => d.parameters.length) = some 0 := ⟨hc_13.1, hc_13.2, hp_4⟩
theorem hd_X8_look : yX8_look.cls ≠ "java/lang/invoke/MethodHandle" ∧ yX8_look.cls ≠ "java/lang/invoke/VarHandle" ∧ (parseMethodDescriptor yX8_look.desc).map (fun d => d.parameters.length) = some 1 := ⟨hc_13.1, hc_13.2, hp_7⟩
theorem hd_X8_never : yX8_never.cls ≠ "java/lang/invoke/MethodHandle" ∧ yX8_never.cls ≠ "java/lang/invoke/VarHandle" ∧ (parseMethodDescriptor yX8_never.desc).map (fun d => d.parameters.length) = some 0 := ⟨hc_13.1, hc_13.2, hp_4⟩
theorem hd_X8_of : yX8_of.cls ≠ "java/lang/invoke/MethodHandle" ∧ yX8_of.cls ≠ "java/lang/invoke/VarHandle" ∧ (parseMethodDescriptor yX8_of.desc).map (fun d => d.parameters.length) = some 2 := ⟨hc_13.1, hc_13.2, hp_10⟩
theorem hd_X8_orders : yX8_orders.cls ≠ "java/lang/invoke/MethodHandle" ∧ yX8_orders.cls ≠ "java/lang/invoke/VarHandle" ∧ (parseMethodDescriptor yX8_orders.desc).map (fun d => d.parameters.length) = some 0 := ⟨hc_13.1, hc_13.2, hp_4⟩
theorem hd_X8_pass : yX8_pass.cls ≠ "java/lang/invoke/MethodHandle" ∧ yX8_pass.cls ≠ "java/lang/invoke/VarHandle" ∧ (parseMethodDescriptor yX8_pass.desc).map (fun d => d.parameters.length) = some 0 := ⟨hc_13.1, hc_13.2, hp_4⟩
theorem hd_X8_person : yX8_person.cls ≠ "java/lang/invoke/MethodHandle" ∧ yX8_person.cls ≠ "java/lang/invoke/VarHandle" ∧ (parseMethodDescriptor yX8_person.desc).map (fun d => d.parameters.length) = some 2 := ⟨hc_13.1, hc_13.2, hp_10⟩
theorem hd_X8_placed : yX8_placed.cls ≠ "java/lang/invoke/MethodHandle" ∧ yX8_placed.cls ≠ "java/lang/invoke/VarHandle" ∧ (parseMethodDescriptor yX8_placed.desc).map (fun d => d.parameters.length) = some 2 := ⟨hc_13.1, hc_13.2, hp_10⟩
theorem hd_X8_race : yX8_race.cls ≠ "java/lang/invoke/MethodHandle" ∧ yX8_race.cls ≠ "java/lang/invoke/VarHandle" ∧ (parseMethodDescriptor yX8_race.desc).map (fun d => d.parameters.length) = some 1 := ⟨hc_13.1, hc_13.2, hp_7⟩
theorem hd_X8_ranking : yX8_ranking.cls ≠ "java/lang/invoke/MethodHandle" ∧ yX8_ranking.cls ≠ "java/lang/invoke/VarHandle" ∧ (parseMethodDescriptor yX8_ranking.desc).map (fun d => d.parameters.length) = some 1 := ⟨hc_13.1, hc_13.2, hp_7⟩
theorem hd_X8_row : yX8_row.cls ≠ "java/lang/invoke/MethodHandle" ∧ yX8_row.cls ≠ "java/lang/invoke/VarHandle" ∧ (parseMethodDescriptor yX8_row.desc).map (fun d => d.parameters.length) = some 0 := ⟨hc_13.1, hc_13.2, hp_4⟩
theorem hd_X8_seen : yX8_seen.cls ≠ "java/lang/invoke/MethodHandle" ∧ yX8_seen.cls ≠ "java/lang/invoke/VarHandle" ∧ (parseMethodDescriptor yX8_seen.desc).map (fun d => d.parameters.length) = some 2 := ⟨hc_13.1, hc_13.2, hp_10⟩
theorem hd_X8_status : yX8_status.cls ≠ "java/lang/invoke/MethodHandle" ∧ yX8_status.cls ≠ "java/lang/invoke/VarHandle" ∧ (parseMethodDescriptor yX8_status.desc).map (fun d => d.parameters.length) = some 0 := ⟨hc_13.1, hc_13.2, hp_4⟩
theorem hd_X8_stopped : yX8_stopped.cls ≠ "java/lang/invoke/MethodHandle" ∧ yX8_stopped.cls ≠ "java/lang/invoke/VarHandle" ∧ (parseMethodDescriptor yX8_stopped.desc).map (fun d => d.parameters.length) = some 0 := ⟨hc_13.1, hc_13.2, hp_4⟩
theorem hd_X8_strength : yX8_strength.cls ≠ "java/lang/invoke/MethodHandle" ∧ yX8_strength.cls ≠ "java/lang/invoke/VarHandle" ∧ (parseMethodDescriptor yX8_strength.desc).map (fun d => d.parameters.length) = some 3 := ⟨hc_13.1, hc_13.2, hp_39⟩
theorem hd_X8_take : yX8_take.cls ≠ "java/lang/invoke/MethodHandle" ∧ yX8_take.cls ≠ "java/lang/invoke/VarHandle" ∧ (parseMethodDescriptor yX8_take.desc).map (fun d => d.parameters.length) = some 1 := ⟨hc_13.1, hc_13.2, hp_7⟩
theorem hd_X8_terms : yX8_terms.cls ≠ "java/lang/invoke/MethodHandle" ∧ yX8_terms.cls ≠ "java/lang/invoke/VarHandle" ∧ (parseMethodDescriptor yX8_terms.desc).map (fun d => d.parameters.length) = some 2 := ⟨hc_13.1, hc_13.2, hp_10⟩
theorem hd_X8_undo : yX8_undo.cls ≠ "java/lang/invoke/MethodHandle" ∧ yX8_undo.cls ≠ "java/lang/invoke/VarHandle" ∧ (parseMethodDescriptor yX8_undo.desc).map (fun d => d.parameters.length) = some 0 := ⟨hc_13.1, hc_13.2, hp_4⟩
theorem hd_X9_back : yX9_back.cls ≠ "java/lang/invoke/MethodHandle" ∧ yX9_back.cls ≠ "java/lang/invoke/VarHandle" ∧ (parseMethodDescriptor yX9_back.desc).map (fun d => d.parameters.length) = some 1 := ⟨hc_14.1, hc_14.2, hp_7⟩
theorem hd_X9_be : yX9_be.cls ≠ "java/lang/invoke/MethodHandle" ∧ yX9_be.cls ≠ "java/lang/invoke/VarHandle" ∧ (parseMethodDescriptor yX9_be.desc).map (fun d => d.parameters.length) = some 4 := ⟨hc_14.1, hc_14.2, hp_54⟩
theorem hd_X9_beats : yX9_beats.cls ≠ "java/lang/invoke/MethodHandle" ∧ yX9_beats.cls ≠ "java/lang/invoke/VarHandle" ∧ (parseMethodDescriptor yX9_beats.desc).map (fun d => d.parameters.length) = some 3 := ⟨hc_14.1, hc_14.2, hp_39⟩
theorem hd_X9_blots : yX9_blots.cls ≠ "java/lang/invoke/MethodHandle" ∧ yX9_blots.cls ≠ "java/lang/invoke/VarHandle" ∧ (parseMethodDescriptor yX9_blots.desc).map (fun d => d.parameters.length) = some 0 := ⟨hc_14.1, hc_14.2, hp_4⟩
theorem hd_X9_canBe : yX9_canBe.cls ≠ "java/lang/invoke/MethodHandle" ∧ yX9_canBe.cls ≠ "java/lang/invoke/VarHandle" ∧ (parseMethodDescriptor yX9_canBe.desc).map (fun d => d.parameters.length) = some 0 := ⟨hc_14.1, hc_14.2, hp_4⟩
theorem hd_X9_centuries : yX9_centuries.cls ≠ "java/lang/invoke/MethodHandle" ∧ yX9_centuries.cls ≠ "java/lang/invoke/VarHandle" ∧ (parseMethodDescriptor yX9_centuries.desc).map (fun d => d.parameters.length) = some 2 := ⟨hc_14.1, hc_14.2, hp_10⟩
theorem hd_X9_circles : yX9_circles.cls ≠ "java/lang/invoke/MethodHandle" ∧ yX9_circles.cls ≠ "java/lang/invoke/VarHandle" ∧ (parseMethodDescriptor yX9_circles.desc).map (fun d => d.parameters.length) = some 0 := ⟨hc_14.1, hc_14.2, hp_4⟩
theorem hd_X9_compare : yX9_compare.cls ≠ "java/lang/invoke/MethodHandle" ∧ yX9_compare.cls ≠ "java/lang/invoke/VarHandle" ∧ (parseMethodDescriptor yX9_compare.desc).map (fun d => d.parameters.length) = some 2 := ⟨hc_14.1, hc_14.2, hp_10⟩
theorem hd_X9_count : yX9_count.cls ≠ "java/lang/invoke/MethodHandle" ∧ yX9_count.cls ≠ "java/lang/invoke/VarHandle" ∧ (parseMethodDescriptor yX9_count.desc).map (fun d => d.parameters.length) = some 1 := ⟨hc_14.1, hc_14.2, hp_7⟩
theorem hd_X9_crowned : yX9_crowned.cls ≠ "java/lang/invoke/MethodHandle" ∧ yX9_crowned.cls ≠ "java/lang/invoke/VarHandle" ∧ (parseMethodDescriptor yX9_crowned.desc).map (fun d => d.parameters.length) = some 1 := ⟨hc_14.1, hc_14.2, hp_7⟩
theorem hd_X9_drawn : yX9_drawn.cls ≠ "java/lang/invoke/MethodHandle" ∧ yX9_drawn.cls ≠ "java/lang/invoke/VarHandle" ∧ (parseMethodDescriptor yX9_drawn.desc).map (fun d => d.parameters.length) = some 2 := ⟨hc_14.1, hc_14.2, hp_10⟩
theorem hd_X9_end : yX9_end.cls ≠ "java/lang/invoke/MethodHandle" ∧ yX9_end.cls ≠ "java/lang/invoke/VarHandle" ∧ (parseMethodDescriptor yX9_end.desc).map (fun d => d.parameters.length) = some 1 := ⟨hc_14.1, hc_14.2, hp_7⟩
theorem hd_X9_enter : yX9_enter.cls ≠ "java/lang/invoke/MethodHandle" ∧ yX9_enter.cls ≠ "java/lang/invoke/VarHandle" ∧ (parseMethodDescriptor yX9_enter.desc).map (fun d => d.parameters.length) = some 1 := ⟨hc_14.1, hc_14.2, hp_7⟩
theorem hd_X9_fault : yX9_fault.cls ≠ "java/lang/invoke/MethodHandle" ∧ yX9_fault.cls ≠ "java/lang/invoke/VarHandle" ∧ (parseMethodDescriptor yX9_fault.desc).map (fun d => d.parameters.length) = some 0 := ⟨hc_14.1, hc_14.2, hp_4⟩
theorem hd_X9_feed : yX9_feed.cls ≠ "java/lang/invoke/MethodHandle" ∧ yX9_feed.cls ≠ "java/lang/invoke/VarHandle" ∧ (parseMethodDescriptor yX9_feed.desc).map (fun d => d.parameters.length) = some 5 := ⟨hc_14.1, hc_14.2, hp_55⟩
theorem hd_X9_few : yX9_few.cls ≠ "java/lang/invoke/MethodHandle" ∧ yX9_few.cls ≠ "java/lang/invoke/VarHandle" ∧ (parseMethodDescriptor yX9_few.desc).map (fun d => d.parameters.length) = some 2 := ⟨hc_14.1, hc_14.2, hp_38⟩
theorem hd_X9_force : yX9_force.cls ≠ "java/lang/invoke/MethodHandle" ∧ yX9_force.cls ≠ "java/lang/invoke/VarHandle" ∧ (parseMethodDescriptor yX9_force.desc).map (fun d => d.parameters.length) = some 1 := ⟨hc_14.1, hc_14.2, hp_7⟩
theorem hd_X9_forget : yX9_forget.cls ≠ "java/lang/invoke/MethodHandle" ∧ yX9_forget.cls ≠ "java/lang/invoke/VarHandle" ∧ (parseMethodDescriptor yX9_forget.desc).map (fun d => d.parameters.length) = some 0 := ⟨hc_14.1, hc_14.2, hp_4⟩
theorem hd_X9_heir : yX9_heir.cls ≠ "java/lang/invoke/MethodHandle" ∧ yX9_heir.cls ≠ "java/lang/invoke/VarHandle" ∧ (parseMethodDescriptor yX9_heir.desc).map (fun d => d.parameters.length) = some 1 := ⟨hc_14.1, hc_14.2, hp_7⟩
theorem hd_X9_image : yX9_image.cls ≠ "java/lang/invoke/MethodHandle" ∧ yX9_image.cls ≠ "java/lang/invoke/VarHandle" ∧ (parseMethodDescriptor yX9_image.desc).map (fun d => d.parameters.length) = some 1 := ⟨hc_14.1, hc_14.2, hp_7⟩
theorem hd_X9_init : yX9_init.cls ≠ "java/lang/invoke/MethodHandle" ∧ yX9_init.cls ≠ "java/lang/invoke/VarHandle" ∧ (parseMethodDescriptor yX9_init.desc).map (fun d => d.parameters.length) = some 0 := ⟨hc_14.1, hc_14.2, hp_11⟩
theorem hd_X9_ladder : yX9_ladder.cls ≠ "java/lang/invoke/MethodHandle" ∧ yX9_ladder.cls ≠ "java/lang/invoke/VarHandle" ∧ (parseMethodDescriptor yX9_ladder.desc).map (fun d => d.parameters.length) = some 2 := ⟨hc_14.1, hc_14.2, hp_38⟩
theorem hd_X9_law : yX9_law.cls ≠ "java/lang/invoke/MethodHandle" ∧ yX9_law.cls ≠ "java/lang/invoke/VarHandle" ∧ (parseMethodDescriptor yX9_law.desc).map (fun d => d.parameters.length) = some 0 := ⟨hc_14.1, hc_14.2, hp_4⟩
theorem hd_X9_look : yX9_look.cls ≠ "java/lang/invoke/MethodHandle" ∧ yX9_look.cls ≠ "java/lang/invoke/VarHandle" ∧ (parseMethodDescriptor yX9_look.desc).map (fun d => d.parameters.length) = some 1 := ⟨hc_14.1, hc_14.2, hp_7⟩
theorem hd_X9_never : yX9_never.cls ≠ "java/lang/invoke/MethodHandle" ∧ yX9_never.cls ≠ "java/lang/invoke/VarHandle" ∧ (parseMethodDescriptor yX9_never.desc).map (fun d => d.parameters.length) = some 0 := ⟨hc_14.1, hc_14.2, hp_4⟩
theorem hd_X9_of : yX9_of.cls ≠ "java/lang/invoke/MethodHandle" ∧ yX9_of.cls ≠ "java/lang/invoke/VarHandle" ∧ (parseMethodDescriptor yX9_of.desc).map (fun d => d.parameters.length) = some 2 := ⟨hc_14.1, hc_14.2, hp_10⟩
theorem hd_X9_orders : yX9_orders.cls ≠ "java/lang/invoke/MethodHandle" ∧ yX9_orders.cls ≠ "java/lang/invoke/VarHandle" ∧ (parseMethodDescriptor yX9_orders.desc).map (fun d => d.parameters.length) = some 0 := ⟨hc_14.1, hc_14.2, hp_4⟩
theorem hd_X9_pass : yX9_pass.cls ≠ "java/lang/invoke/MethodHandle" ∧ yX9_pass.cls ≠ "java/lang/invoke/VarHandle" ∧ (parseMethodDescriptor yX9_pass.desc).map (fun d => d.parameters.length) = some 0 := ⟨hc_14.1, hc_14.2, hp_4⟩
theorem hd_X9_person : yX9_person.cls ≠ "java/lang/invoke/MethodHandle" ∧ yX9_person.cls ≠ "java/lang/invoke/VarHandle" ∧ (parseMethodDescriptor yX9_person.desc).map (fun d => d.parameters.length) = some 2 := ⟨hc_14.1, hc_14.2, hp_10⟩
theorem hd_X9_placed : yX9_placed.cls ≠ "java/lang/invoke/MethodHandle" ∧ yX9_placed.cls ≠ "java/lang/invoke/VarHandle" ∧ (parseMethodDescriptor yX9_placed.desc).map (fun d => d.parameters.length) = some 2 := ⟨hc_14.1, hc_14.2, hp_10⟩
theorem hd_X9_race : yX9_race.cls ≠ "java/lang/invoke/MethodHandle" ∧ yX9_race.cls ≠ "java/lang/invoke/VarHandle" ∧ (parseMethodDescriptor yX9_race.desc).map (fun d => d.parameters.length) = some 1 := ⟨hc_14.1, hc_14.2, hp_7⟩
theorem hd_X9_ranking : yX9_ranking.cls ≠ "java/lang/invoke/MethodHandle" ∧ yX9_ranking.cls ≠ "java/lang/invoke/VarHandle" ∧ (parseMethodDescriptor yX9_ranking.desc).map (fun d => d.parameters.length) = some 1 := ⟨hc_14.1, hc_14.2, hp_7⟩
theorem hd_X9_row : yX9_row.cls ≠ "java/lang/invoke/MethodHandle" ∧ yX9_row.cls ≠ "java/lang/invoke/VarHandle" ∧ (parseMethodDescriptor yX9_row.desc).map (fun d => d.parameters.length) = some 0 := ⟨hc_14.1, hc_14.2, hp_4⟩
theorem hd_X9_seen : yX9_seen.cls ≠ "java/lang/invoke/MethodHandle" ∧ yX9_seen.cls ≠ "java/lang/invoke/VarHandle" ∧ (parseMethodDescriptor yX9_seen.desc).map (fun d => d.parameters.length) = some 2 := ⟨hc_14.1, hc_14.2, hp_10⟩
theorem hd_X9_status : yX9_status.cls ≠ "java/lang/invoke/MethodHandle" ∧ yX9_status.cls ≠ "java/lang/invoke/VarHandle" ∧ (parseMethodDescriptor yX9_status.desc).map (fun d => d.parameters.length) = some 0 := ⟨hc_14.1, hc_14.2, hp_4⟩
theorem hd_X9_stopped : yX9_stopped.cls ≠ "java/lang/invoke/MethodHandle" ∧ yX9_stopped.cls ≠ "java/lang/invoke/VarHandle" ∧ (parseMethodDescriptor yX9_stopped.desc).map (fun d => d.parameters.length) = some 0 := ⟨hc_14.1, hc_14.2, hp_4⟩
theorem hd_X9_strength : yX9_strength.cls ≠ "java/lang/invoke/MethodHandle" ∧ yX9_strength.cls ≠ "java/lang/invoke/VarHandle" ∧ (parseMethodDescriptor yX9_strength.desc).map (fun d => d.parameters.length) = some 3 := ⟨hc_14.1, hc_14.2, hp_39⟩
theorem hd_X9_take : yX9_take.cls ≠ "java/lang/invoke/MethodHandle" ∧ yX9_take.cls ≠ "java/lang/invoke/VarHandle" ∧ (parseMethodDescriptor yX9_take.desc).map (fun d => d.parameters.length) = some 1 := ⟨hc_14.1, hc_14.2, hp_7⟩
theorem hd_X9_terms : yX9_terms.cls ≠ "java/lang/invoke/MethodHandle" ∧ yX9_terms.cls ≠ "java/lang/invoke/VarHandle" ∧ (parseMethodDescriptor yX9_terms.desc).map (fun d => d.parameters.length) = some 2 := ⟨hc_14.1, hc_14.2, hp_10⟩
theorem hd_X9_undo : yX9_undo.cls ≠ "java/lang/invoke/MethodHandle" ∧ yX9_undo.cls ≠ "java/lang/invoke/VarHandle" ∧ (parseMethodDescriptor yX9_undo.desc).map (fun d => d.parameters.length) = some 0 := ⟨hc_14.1, hc_14.2, hp_4⟩
