def ps_ins (j pc : Nat) : Option ps_I := bif Nat.blt j 238 then (bif Nat.blt j 119 then (bif Nat.blt j 59 then (bif Nat.blt j 29 then (bif Nat.blt j 14 then (bif Nat.blt j 7 then (bif Nat.blt j 3 then (bif Nat.blt j 1 then (ps_c0 pc) else (bif Nat.blt j 2 then (ps_c1 pc) else (ps_c2 pc))) else (bif Nat.blt j 5 then (bif Nat.blt j 4 then (ps_c3 pc) else (ps_c4 pc)) else (bif Nat.blt j 6 then (ps_c5 pc) else (ps_c6 pc)))) else (bif Nat.blt j 10 then (bif Nat.blt j 8 then (ps_c7 pc) else (bif Nat.blt j 9 then (ps_c8 pc) else (ps_c9 pc))) else (bif Nat.blt j 12 then (bif Nat.blt j 11 then (ps_c10 pc) else (ps_c11 pc)) else (bif Nat.blt j 13 then (ps_c12 pc) else (ps_c13 pc))))) else (bif Nat.blt j 21 then (bif Nat.blt j 17 then (bif Nat.blt j 15 then (ps_c14 pc) else (bif Nat.blt j 16 then (ps_c15 pc) else (ps_c16 pc))) else (bif Nat.blt j 19 then (bif Nat.blt j 18 then (ps_c17 pc) else (ps_c18 pc)) else (bif Nat.blt j 20 then (ps_c19 pc) else (ps_c20 pc)))) else (bif Nat.blt j 25 then (bif Nat.blt j 23 then (bif Nat.blt j 22 then (ps_c21 pc) else (ps_c22 pc)) else (bif Nat.blt j 24 then (ps_c23 pc) else (ps_c24 pc))) else (bif Nat.blt j 27 then (bif Nat.blt j 26 then (ps_c25 pc) else (ps_c26 pc)) else (bif Nat.blt j 28 then (ps_c27 pc) else (ps_c28 pc)))))) else (bif Nat.blt j 44 then (bif Nat.blt j 36 then (bif Nat.blt j 32 then (bif Nat.blt j 30 then (ps_c29 pc) else (bif Nat.blt j 31 then (ps_c30 pc) else (ps_c31 pc))) else (bif Nat.blt j 34 then (bif Nat.blt j 33 then (ps_c32 pc) else (ps_c33 pc)) else (bif Nat.blt j 35 then (ps_c34 pc) else (ps_c35 pc)))) else (bif Nat.blt j 40 then (bif Nat.blt j 38 then (bif Nat.blt j 37 then (ps_c36 pc) else (ps_c37 pc)) else (bif Nat.blt j 39 then (ps_c38 pc) else (ps_c39 pc))) else (bif Nat.blt j 42 then (bif Nat.blt j 41 then (ps_c40 pc) else (ps_c41 pc)) else (bif Nat.blt j 43 then (ps_c42 pc) else (ps_c43 pc))))) else (bif Nat.blt j 51 then (bif Nat.blt j 47 then (bif Nat.blt j 45 then (ps_c44 pc) else (bif Nat.blt j 46 then (ps_c45 pc) else (ps_c46 pc))) else (bif Nat.blt j 49 then (bif Nat.blt j 48 then (ps_c47 pc) else (ps_c48 pc)) else (bif Nat.blt j 50 then (ps_c49 pc) else (ps_c50 pc)))) else (bif Nat.blt j 55 then (bif Nat.blt j 53 then (bif Nat.blt j 52 then (ps_c51 pc) else (ps_c52 pc)) else (bif Nat.blt j 54 then (ps_c53 pc) else (ps_c54 pc))) else (bif Nat.blt j 57 then (bif Nat.blt j 56 then (ps_c55 pc) else (ps_c56 pc)) else (bif Nat.blt j 58 then (ps_c57 pc) else (ps_c58 pc))))))) else (bif Nat.blt j 89 then (bif Nat.blt j 74 then (bif Nat.blt j 66 then (bif Nat.blt j 62 then (bif Nat.blt j 60 then (ps_c59 pc) else (bif Nat.blt j 61 then (ps_c60 pc) else (ps_c61 pc))) else (bif Nat.blt j 64 then (bif Nat.blt j 63 then (ps_c62 pc) else (ps_c63 pc)) else (bif Nat.blt j 65 then (ps_c64 pc) else (ps_c65 pc)))) else (bif Nat.blt j 70 then (bif Nat.blt j 68 then (bif Nat.blt j 67 then (ps_c66 pc) else (ps_c67 pc)) else (bif Nat.blt j 69 then (ps_c68 pc) else (ps_c69 pc))) else (bif Nat.blt j 72 then (bif Nat.blt j 71 then (ps_c70 pc) else (ps_c71 pc)) else (bif Nat.blt j 73 then (ps_c72 pc) else (ps_c73 pc))))) else (bif Nat.blt j 81 then (bif Nat.blt j 77 then (bif Nat.blt j 75 then (ps_c74 pc) else (bif Nat.blt j 76 then (ps_c75 pc) else (ps_c76 pc))) else (bif Nat.blt j 79 then (bif Nat.blt j 78 then (ps_c77 pc) else (ps_c78 pc)) else (bif Nat.blt j 80 then (ps_c79 pc) else (ps_c80 pc)))) else (bif Nat.blt j 85 then (bif Nat.blt j 83 then (bif Nat.blt j 82 then (ps_c81 pc) else (ps_c82 pc)) else (bif Nat.blt j 84 then (ps_c83 pc) else (ps_c84 pc))) else (bif Nat.blt j 87 then (bif Nat.blt j 86 then (ps_c85 pc) else (ps_c86 pc)) else (bif Nat.blt j 88 then (ps_c87 pc) else (ps_c88 pc)))))) else (bif Nat.blt j 104 then (bif Nat.blt j 96 then (bif Nat.blt j 92 then (bif Nat.blt j 90 then (ps_c89 pc) else (bif Nat.blt j 91 then (ps_c90 pc) else (ps_c91 pc))) else (bif Nat.blt j 94 then (bif Nat.blt j 93 then (ps_c92 pc) else (ps_c93 pc)) else (bif Nat.blt j 95 then (ps_c94 pc) else (ps_c95 pc)))) else (bif Nat.blt j 100 then (bif Nat.blt j 98 then (bif Nat.blt j 97 then (ps_c96 pc) else (ps_c97 pc)) else (bif Nat.blt j 99 then (ps_c98 pc) else (ps_c99 pc))) else (bif Nat.blt j 102 then (bif Nat.blt j 101 then (ps_c100 pc) else (ps_c101 pc)) else (bif Nat.blt j 103 then (ps_c102 pc) else (ps_c103 pc))))) else (bif Nat.blt j 111 then (bif Nat.blt j 107 then (bif Nat.blt j 105 then (ps_c104 pc) else (bif Nat.blt j 106 then (ps_c105 pc) else (ps_c106 pc))) else (bif Nat.blt j 109 then (bif Nat.blt j 108 then (ps_c107 pc) else (ps_c108 pc)) else (bif Nat.blt j 110 then (ps_c109 pc) else (ps_c110 pc)))) else (bif Nat.blt j 115 then (bif Nat.blt j 113 then (bif Nat.blt j 112 then (ps_c111 pc) else (ps_c112 pc)) else (bif Nat.blt j 114 then (ps_c113 pc) else (ps_c114 pc))) else (bif Nat.blt j 117 then (bif Nat.blt j 116 then (ps_c115 pc) else (ps_c116 pc)) else (bif Nat.blt j 118 then (ps_c117 pc) else (ps_c118 pc)))))))) else (bif Nat.blt j 178 then (bif Nat.blt j 148 then (bif Nat.blt j 133 then (bif Nat.blt j 126 then (bif Nat.blt j 122 then (bif Nat.blt j 120 then (ps_c119 pc) else (bif Nat.blt j 121 then (ps_c120 pc) else (ps_c121 pc))) else (bif Nat.blt j 124 then (bif Nat.blt j 123 then (ps_c122 pc) else (ps_c123 pc)) else (bif Nat.blt j 125 then (ps_c124 pc) else (ps_c125 pc)))) else (bif Nat.blt j 129 then (bif Nat.blt j 127 then (ps_c126 pc) else (bif Nat.blt j 128 then (ps_c127 pc) else (ps_c128 pc))) else (bif Nat.blt j 131 then (bif Nat.blt j 130 then (ps_c129 pc) else (ps_c130 pc)) else (bif Nat.blt j 132 then (ps_c131 pc) else (ps_c132 pc))))) else (bif Nat.blt j 140 then (bif Nat.blt j 136 then (bif Nat.blt j 134 then (ps_c133 pc) else (bif Nat.blt j 135 then (ps_c134 pc) else (ps_c135 pc))) else (bif Nat.blt j 138 then (bif Nat.blt j 137 then (ps_c136 pc) else (ps_c137 pc)) else (bif Nat.blt j 139 then (ps_c138 pc) else (ps_c139 pc)))) else (bif Nat.blt j 144 then (bif Nat.blt j 142 then (bif Nat.blt j 141 then (ps_c140 pc) else (ps_c141 pc)) else (bif Nat.blt j 143 then (ps_c142 pc) else (ps_c143 pc))) else (bif Nat.blt j 146 then (bif Nat.blt j 145 then (ps_c144 pc) else (ps_c145 pc)) else (bif Nat.blt j 147 then (ps_c146 pc) else (ps_c147 pc)))))) else (bif Nat.blt j 163 then (bif Nat.blt j 155 then (bif Nat.blt j 151 then (bif Nat.blt j 149 then (ps_c148 pc) else (bif Nat.blt j 150 then (ps_c149 pc) else (ps_c150 pc))) else (bif Nat.blt j 153 then (bif Nat.blt j 152 then (ps_c151 pc) else (ps_c152 pc)) else (bif Nat.blt j 154 then (ps_c153 pc) else (ps_c154 pc)))) else (bif Nat.blt j 159 then (bif Nat.blt j 157 then (bif Nat.blt j 156 then (ps_c155 pc) else (ps_c156 pc)) else (bif Nat.blt j 158 then (ps_c157 pc) else (ps_c158 pc))) else (bif Nat.blt j 161 then (bif Nat.blt j 160 then (ps_c159 pc) else (ps_c160 pc)) else (bif Nat.blt j 162 then (ps_c161 pc) else (ps_c162 pc))))) else (bif Nat.blt j 170 then (bif Nat.blt j 166 then (bif Nat.blt j 164 then (ps_c163 pc) else (bif Nat.blt j 165 then (ps_c164 pc) else (ps_c165 pc))) else (bif Nat.blt j 168 then (bif Nat.blt j 167 then (ps_c166 pc) else (ps_c167 pc)) else (bif Nat.blt j 169 then (ps_c168 pc) else (ps_c169 pc)))) else (bif Nat.blt j 174 then (bif Nat.blt j 172 then (bif Nat.blt j 171 then (ps_c170 pc) else (ps_c171 pc)) else (bif Nat.blt j 173 then (ps_c172 pc) else (ps_c173 pc))) else (bif Nat.blt j 176 then (bif Nat.blt j 175 then (ps_c174 pc) else (ps_c175 pc)) else (bif Nat.blt j 177 then (ps_c176 pc) else (ps_c177 pc))))))) else (bif Nat.blt j 208 then (bif Nat.blt j 193 then (bif Nat.blt j 185 then (bif Nat.blt j 181 then (bif Nat.blt j 179 then (ps_c178 pc) else (bif Nat.blt j 180 then (ps_c179 pc) else (ps_c180 pc))) else (bif Nat.blt j 183 then (bif Nat.blt j 182 then (ps_c181 pc) else (ps_c182 pc)) else (bif Nat.blt j 184 then (ps_c183 pc) else (ps_c184 pc)))) else (bif Nat.blt j 189 then (bif Nat.blt j 187 then (bif Nat.blt j 186 then (ps_c185 pc) else (ps_c186 pc)) else (bif Nat.blt j 188 then (ps_c187 pc) else (ps_c188 pc))) else (bif Nat.blt j 191 then (bif Nat.blt j 190 then (ps_c189 pc) else (ps_c190 pc)) else (bif Nat.blt j 192 then (ps_c191 pc) else (ps_c192 pc))))) else (bif Nat.blt j 200 then (bif Nat.blt j 196 then (bif Nat.blt j 194 then (ps_c193 pc) else (bif Nat.blt j 195 then (ps_c194 pc) else (ps_c195 pc))) else (bif Nat.blt j 198 then (bif Nat.blt j 197 then (ps_c196 pc) else (ps_c197 pc)) else (bif Nat.blt j 199 then (ps_c198 pc) else (ps_c199 pc)))) else (bif Nat.blt j 204 then (bif Nat.blt j 202 then (bif Nat.blt j 201 then (ps_c200 pc) else (ps_c201 pc)) else (bif Nat.blt j 203 then (ps_c202 pc) else (ps_c203 pc))) else (bif Nat.blt j 206 then (bif Nat.blt j 205 then (ps_c204 pc) else (ps_c205 pc)) else (bif Nat.blt j 207 then (ps_c206 pc) else (ps_c207 pc)))))) else (bif Nat.blt j 223 then (bif Nat.blt j 215 then (bif Nat.blt j 211 then (bif Nat.blt j 209 then (ps_c208 pc) else (bif Nat.blt j 210 then (ps_c209 pc) else (ps_c210 pc))) else (bif Nat.blt j 213 then (bif Nat.blt j 212 then (ps_c211 pc) else (ps_c212 pc)) else (bif Nat.blt j 214 then (ps_c213 pc) else (ps_c214 pc)))) else (bif Nat.blt j 219 then (bif Nat.blt j 217 then (bif Nat.blt j 216 then (ps_c215 pc) else (ps_c216 pc)) else (bif Nat.blt j 218 then (ps_c217 pc) else (ps_c218 pc))) else (bif Nat.blt j 221 then (bif Nat.blt j 220 then (ps_c219 pc) else (ps_c220 pc)) else (bif Nat.blt j 222 then (ps_c221 pc) else (ps_c222 pc))))) else (bif Nat.blt j 230 then (bif Nat.blt j 226 then (bif Nat.blt j 224 then (ps_c223 pc) else (bif Nat.blt j 225 then (ps_c224 pc) else (ps_c225 pc))) else (bif Nat.blt j 228 then (bif Nat.blt j 227 then (ps_c226 pc) else (ps_c227 pc)) else (bif Nat.blt j 229 then (ps_c228 pc) else (ps_c229 pc)))) else (bif Nat.blt j 234 then (bif Nat.blt j 232 then (bif Nat.blt j 231 then (ps_c230 pc) else (ps_c231 pc)) else (bif Nat.blt j 233 then (ps_c232 pc) else (ps_c233 pc))) else (bif Nat.blt j 236 then (bif Nat.blt j 235 then (ps_c234 pc) else (ps_c235 pc)) else (bif Nat.blt j 237 then (ps_c236 pc) else (ps_c237 pc))))))))) else none
def ps_m0 : Nat × String × String × ByteArray × Nat × Option FieldType × Nat := (0, "<init>", "()V", prog_2_method_1_code, 1, none, 16)
def ps_m1 : Nat × String × String × ByteArray × Nat × Option FieldType × Nat := (0, "findFault", "(LPumpSpells$Text;)I", prog_2_method_2_code, 3, (some .int), 91)
def ps_m2 : Nat × String × String × ByteArray × Nat × Option FieldType × Nat := (0, "skipBlanks", "()V", prog_2_method_3_code, 2, none, 34)
def ps_m3 : Nat × String × String × ByteArray × Nat × Option FieldType × Nat := (0, "byteHere", "()I", prog_2_method_4_code, 1, (some .int), 23)
def ps_m4 : Nat × String × String × ByteArray × Nat × Option FieldType × Nat := (0, "takesHull", "()Z", prog_2_method_5_code, 7, (some .boolean), 165)
def ps_m5 : Nat × String × String × ByteArray × Nat × Option FieldType × Nat := (0, "takeFigure", "(II)I", prog_2_method_6_code, 4, (some .int), 32)
def ps_m6 : Nat × String × String × ByteArray × Nat × Option FieldType × Nat := (0, "takesGang", "()Z", prog_2_method_7_code, 3, (some .boolean), 58)
def ps_m7 : Nat × String × String × ByteArray × Nat × Option FieldType × Nat := (0, "kindHere", "()I", prog_2_method_8_code, 2, (some .int), 32)
def ps_m8 : Nat × String × String × ByteArray × Nat × Option FieldType × Nat := (1, "<init>", "()V", prog_3_method_1_code, 1, none, 13)
def ps_m9 : Nat × String × String × ByteArray × Nat × Option FieldType × Nat := (1, "valueAt", "(I)I", prog_3_method_2_code, 2, (some .int), 19)
def ps_m10 : Nat × String × String × ByteArray × Nat × Option FieldType × Nat := (1, "hasRun", "(II)Z", prog_3_method_3_code, 3, (some .boolean), 32)
def ps_m11 : Nat × String × String × ByteArray × Nat × Option FieldType × Nat := (1, "renew", "(I)V", prog_3_method_4_code, 2, none, 28)
def ps_m12 : Nat × String × String × ByteArray × Nat × Option FieldType × Nat := (1, "take", "([II)V", prog_3_method_5_code, 3, none, 25)
def ps_m13 : Nat × String × String × ByteArray × Nat × Option FieldType × Nat := (1, "sum", "()J", prog_3_method_6_code, 4, (some .long), 30)
def ps_m14 : Nat × String × String × ByteArray × Nat × Option FieldType × Nat := (1, "isOfActs", "()Z", prog_3_method_7_code, 2, (some .boolean), 32)
def ps_m15 : Nat × String × String × ByteArray × Nat × Option FieldType × Nat := (2, "<init>", "()V", prog_4_method_1_code, 2, none, 53)
def ps_m16 : Nat × String × String × ByteArray × Nat × Option FieldType × Nat := (2, "start", "(LPumpSpells$Ship;I)V", prog_4_method_2_code, 3, none, 52)
def ps_m17 : Nat × String × String × ByteArray × Nat × Option FieldType × Nat := (2, "explore", "(LPumpSpells$Search;I)V", prog_4_method_3_code, 5, none, 88)
def ps_m18 : Nat × String × String × ByteArray × Nat × Option FieldType × Nat := (2, "note", "()V", prog_4_method_4_code, 2, none, 87)
def ps_m19 : Nat × String × String × ByteArray × Nat × Option FieldType × Nat := (3, "<init>", "()V", prog_5_method_1_code, 1, none, 29)
def ps_m20 : Nat × String × String × ByteArray × Nat × Option FieldType × Nat := (3, "launch", "(IIII)V", prog_5_method_2_code, 5, none, 47)
def ps_m21 : Nat × String × String × ByteArray × Nat × Option FieldType × Nat := (3, "enlist", "(II)V", prog_5_method_3_code, 3, none, 50)
def ps_m22 : Nat × String × String × ByteArray × Nat × Option FieldType × Nat := (3, "follow", "(LPumpSpells$Ship;)V", prog_5_method_4_code, 2, none, 118)
def ps_m23 : Nat × String × String × ByteArray × Nat × Option FieldType × Nat := (3, "has", "(I)Z", prog_5_method_5_code, 2, (some .boolean), 18)
def ps_m24 : Nat × String × String × ByteArray × Nat × Option FieldType × Nat := (3, "isSunk", "()Z", prog_5_method_6_code, 1, (some .boolean), 15)
def ps_m25 : Nat × String × String × ByteArray × Nat × Option FieldType × Nat := (3, "isTimeUp", "()Z", prog_5_method_7_code, 1, (some .boolean), 17)
def ps_m26 : Nat × String × String × ByteArray × Nat × Option FieldType × Nat := (3, "isOver", "()Z", prog_5_method_8_code, 1, (some .boolean), 20)
def ps_m27 : Nat × String × String × ByteArray × Nat × Option FieldType × Nat := (3, "allows", "(I)Z", prog_5_method_9_code, 2, (some .boolean), 66)
def ps_m28 : Nat × String × String × ByteArray × Nat × Option FieldType × Nat := (3, "canNow", "(I)Z", prog_5_method_10_code, 2, (some .boolean), 28)
def ps_m29 : Nat × String × String × ByteArray × Nat × Option FieldType × Nat := (3, "setOfActs", "()I", prog_5_method_11_code, 3, (some .int), 32)
def ps_m30 : Nat × String × String × ByteArray × Nat × Option FieldType × Nat := (3, "wouldPump", "(II)I", prog_5_method_12_code, 4, (some .int), 44)
def ps_m31 : Nat × String × String × ByteArray × Nat × Option FieldType × Nat := (3, "wouldLeak", "()I", prog_5_method_13_code, 2, (some .int), 39)
def ps_m32 : Nat × String × String × ByteArray × Nat × Option FieldType × Nat := (3, "pass", "(I)V", prog_5_method_14_code, 4, none, 152)
def ps_m33 : Nat × String × String × ByteArray × Nat × Option FieldType × Nat := (3, "tire", "(I)V", prog_5_method_15_code, 3, none, 71)
def ps_m34 : Nat × String × String × ByteArray × Nat × Option FieldType × Nat := (3, "passOrRest", "(I)V", prog_5_method_16_code, 2, none, 19)
def ps_m35 : Nat × String × String × ByteArray × Nat × Option FieldType × Nat := (3, "passByChance", "(IZ)V", prog_5_method_17_code, 3, none, 38)
def ps_m36 : Nat × String × String × ByteArray × Nat × Option FieldType × Nat := (3, "passAgain", "(II)V", prog_5_method_18_code, 4, none, 26)
def ps_m37 : Nat × String × String × ByteArray × Nat × Option FieldType × Nat := (3, "passRota", "([II)V", prog_5_method_19_code, 5, none, 50)
def ps_m38 : Nat × String × String × ByteArray × Nat × Option FieldType × Nat := (3, "passPlan", "(LPumpSpells$Row;)I", prog_5_method_20_code, 3, (some .int), 55)
def ps_m39 : Nat × String × String × ByteArray × Nat × Option FieldType × Nat := (3, "isSo", "(LPumpSpells$Row;)Z", prog_5_method_21_code, 3, (some .boolean), 47)
def ps_m40 : Nat × String × String × ByteArray × Nat × Option FieldType × Nat := (3, "limitStrengths", "()V", prog_5_method_22_code, 2, none, 38)
def ps_m41 : Nat × String × String × ByteArray × Nat × Option FieldType × Nat := (3, "sumStrengths", "()I", prog_5_method_23_code, 3, (some .int), 29)
def ps_m42 : Nat × String × String × ByteArray × Nat × Option FieldType × Nat := (3, "countOf", "(I)I", prog_5_method_24_code, 4, (some .int), 41)
def ps_m43 : Nat × String × String × ByteArray × Nat × Option FieldType × Nat := (3, "countSingers", "()I", prog_5_method_25_code, 3, (some .int), 57)
def ps_m44 : Nat × String × String × ByteArray × Nat × Option FieldType × Nat := (8, "<init>", "()V", prog_6_method_1_code, 1, none, 10)
def ps_m45 : Nat × String × String × ByteArray × Nat × Option FieldType × Nat := (8, "isMissing", "()Z", prog_6_method_3_code, 1, (some .boolean), 13)
def ps_m46 : Nat × String × String × ByteArray × Nat × Option FieldType × Nat := (8, "has", "(I)Z", prog_6_method_4_code, 2, (some .boolean), 18)
def ps_m47 : Nat × String × String × ByteArray × Nat × Option FieldType × Nat := (8, "findingAt", "(I)I", prog_6_method_5_code, 2, (some .int), 23)
def ps_m48 : Nat × String × String × ByteArray × Nat × Option FieldType × Nat := (8, "digestOn", "(J)J", prog_6_method_6_code, 6, (some .long), 46)
def ps_m49 : Nat × String × String × ByteArray × Nat × Option FieldType × Nat := (4, "<init>", "()V", prog_7_method_1_code, 1, none, 13)
def ps_m50 : Nat × String × String × ByteArray × Nat × Option FieldType × Nat := (4, "valueAt", "(I)I", prog_7_method_2_code, 2, (some .int), 19)
def ps_m51 : Nat × String × String × ByteArray × Nat × Option FieldType × Nat := (4, "renew", "(I)V", prog_7_method_3_code, 2, none, 29)
def ps_m52 : Nat × String × String × ByteArray × Nat × Option FieldType × Nat := (5, "<init>", "()V", prog_8_method_1_code, 1, none, 30)
def ps_m53 : Nat × String × String × ByteArray × Nat × Option FieldType × Nat := (5, "follow", "(LPumpSpells$Voyage;)V", prog_8_method_2_code, 2, none, 30)
def ps_m54 : Nat × String × String × ByteArray × Nat × Option FieldType × Nat := (5, "pass", "(I)V", prog_8_method_3_code, 3, none, 138)
def ps_m55 : Nat × String × String × ByteArray × Nat × Option FieldType × Nat := (5, "goBack", "(I)V", prog_8_method_4_code, 3, none, 139)
def ps_m56 : Nat × String × String × ByteArray × Nat × Option FieldType × Nat := (6, "<init>", "()V", prog_1_method_1_code, 2, none, 199)
def ps_m57 : Nat × String × String × ByteArray × Nat × Option FieldType × Nat := (6, "row", "(II)I", prog_1_method_2_code, 3, (some .int), 37)
def ps_m58 : Nat × String × String × ByteArray × Nat × Option FieldType × Nat := (6, "lay", "(III)I", prog_1_method_3_code, 5, (some .int), 62)
def ps_m59 : Nat × String × String × ByteArray × Nat × Option FieldType × Nat := (6, "at", "(II)I", prog_1_method_4_code, 4, (some .int), 47)
def ps_m60 : Nat × String × String × ByteArray × Nat × Option FieldType × Nat := (6, "tear", "(I)I", prog_1_method_5_code, 2, (some .int), 39)
def ps_m61 : Nat × String × String × ByteArray × Nat × Option FieldType × Nat := (6, "copy", "(IIIII)I", prog_1_method_6_code, 8, (some .int), 114)
def ps_m62 : Nat × String × String × ByteArray × Nat × Option FieldType × Nat := (6, "mean", "(I)I", prog_1_method_7_code, 3, (some .int), 59)
def ps_m63 : Nat × String × String × ByteArray × Nat × Option FieldType × Nat := (6, "text", "(II)I", prog_1_method_8_code, 3, (some .int), 37)
def ps_m64 : Nat × String × String × ByteArray × Nat × Option FieldType × Nat := (6, "put", "(III)I", prog_1_method_9_code, 6, (some .int), 66)
def ps_m65 : Nat × String × String × ByteArray × Nat × Option FieldType × Nat := (6, "fault", "(I)I", prog_1_method_10_code, 2, (some .int), 41)
def ps_m66 : Nat × String × String × ByteArray × Nat × Option FieldType × Nat := (6, "ship", "(I)I", prog_1_method_11_code, 3, (some .int), 93)
def ps_m67 : Nat × String × String × ByteArray × Nat × Option FieldType × Nat := (6, "gang", "(II)I", prog_1_method_12_code, 3, (some .int), 34)
def ps_m68 : Nat × String × String × ByteArray × Nat × Option FieldType × Nat := (6, "mark", "(II)I", prog_1_method_13_code, 5, (some .int), 142)
def ps_m69 : Nat × String × String × ByteArray × Nat × Option FieldType × Nat := (6, "force", "(II)I", prog_1_method_14_code, 4, (some .int), 53)
def ps_m70 : Nat × String × String × ByteArray × Nat × Option FieldType × Nat := (6, "tell", "(I)I", prog_1_method_15_code, 2, (some .int), 36)
def ps_m71 : Nat × String × String × ByteArray × Nat × Option FieldType × Nat := (6, "can", "()I", prog_1_method_16_code, 1, (some .int), 23)
def ps_m72 : Nat × String × String × ByteArray × Nat × Option FieldType × Nat := (6, "act", "(I)I", prog_1_method_17_code, 2, (some .int), 39)
def ps_m73 : Nat × String × String × ByteArray × Nat × Option FieldType × Nat := (6, "undo", "(I)I", prog_1_method_18_code, 3, (some .int), 41)
def ps_m74 : Nat × String × String × ByteArray × Nat × Option FieldType × Nat := (6, "keep", "(I)I", prog_1_method_19_code, 2, (some .int), 53)
def ps_m75 : Nat × String × String × ByteArray × Nat × Option FieldType × Nat := (6, "on", "(I)I", prog_1_method_20_code, 2, (some .int), 48)
def ps_m76 : Nat × String × String × ByteArray × Nat × Option FieldType × Nat := (6, "run", "(I)I", prog_1_method_21_code, 4, (some .int), 88)
def ps_m77 : Nat × String × String × ByteArray × Nat × Option FieldType × Nat := (6, "best", "(II)I", prog_1_method_22_code, 3, (some .int), 81)
def ps_m78 : Nat × String × String × ByteArray × Nat × Option FieldType × Nat := (6, "afloat", "(I)I", prog_1_method_23_code, 2, (some .int), 51)
def ps_m79 : Nat × String × String × ByteArray × Nat × Option FieldType × Nat := (6, "firsts", "(I)I", prog_1_method_24_code, 2, (some .int), 45)
def ps_m80 : Nat × String × String × ByteArray × Nat × Option FieldType × Nat := (6, "rota", "(I)I", prog_1_method_25_code, 3, (some .int), 145)
def ps_m81 : Nat × String × String × ByteArray × Nat × Option FieldType × Nat := (6, "watch", "(II)I", prog_1_method_26_code, 7, (some .int), 167)
def ps_m82 : Nat × String × String × ByteArray × Nat × Option FieldType × Nat := (6, "lasts", "(I)I", prog_1_method_27_code, 3, (some .int), 89)
def ps_m83 : Nat × String × String × ByteArray × Nat × Option FieldType × Nat := (6, "inches", "(III)I", prog_1_method_28_code, 4, (some .int), 58)
def ps_m84 : Nat × String × String × ByteArray × Nat × Option FieldType × Nat := (6, "lighten", "(I)I", prog_1_method_29_code, 3, (some .int), 103)
def ps_m85 : Nat × String × String × ByteArray × Nat × Option FieldType × Nat := (6, "rest", "(I)I", prog_1_method_30_code, 2, (some .int), 35)
def ps_m86 : Nat × String × String × ByteArray × Nat × Option FieldType × Nat := (6, "gains", "(I)I", prog_1_method_31_code, 5, (some .int), 88)
def ps_m87 : Nat × String × String × ByteArray × Nat × Option FieldType × Nat := (6, "feigns", "(I)I", prog_1_method_32_code, 5, (some .int), 127)
def ps_m88 : Nat × String × String × ByteArray × Nat × Option FieldType × Nat := (6, "kinds", "(II)I", prog_1_method_33_code, 6, (some .int), 88)
def ps_m89 : Nat × String × String × ByteArray × Nat × Option FieldType × Nat := (6, "leaks", "(I)I", prog_1_method_34_code, 5, (some .int), 106)
def ps_m90 : Nat × String × String × ByteArray × Nat × Option FieldType × Nat := (6, "odds", "(III)I", prog_1_method_35_code, 4, (some .int), 42)
def ps_m91 : Nat × String × String × ByteArray × Nat × Option FieldType × Nat := (6, "mid", "(III)I", prog_1_method_36_code, 4, (some .int), 42)
def ps_m92 : Nat × String × String × ByteArray × Nat × Option FieldType × Nat := (6, "lots", "(II)I", prog_1_method_37_code, 7, (some .int), 118)
def ps_m93 : Nat × String × String × ByteArray × Nat × Option FieldType × Nat := (6, "asked", "()I", prog_1_method_38_code, 1, (some .int), 5)
def ps_m94 : Nat × String × String × ByteArray × Nat × Option FieldType × Nat := (6, "upper", "()J", prog_1_method_39_code, 1, (some .long), 5)
def ps_m95 : Nat × String × String × ByteArray × Nat × Option FieldType × Nat := (6, "lower", "()J", prog_1_method_40_code, 1, (some .long), 5)
def ps_m96 : Nat × String × String × ByteArray × Nat × Option FieldType × Nat := (6, "count", "(I)I", prog_1_method_41_code, 2, (some .int), 20)
def ps_m97 : Nat × String × String × ByteArray × Nat × Option FieldType × Nat := (6, "finding", "()I", prog_1_method_42_code, 1, (some .int), 5)
def ps_m98 : Nat × String × String × ByteArray × Nat × Option FieldType × Nat := (6, "findings", "(I)I", prog_1_method_43_code, 2, (some .int), 21)
def ps_m99 : Nat × String × String × ByteArray × Nat × Option FieldType × Nat := (6, "digest", "()J", prog_1_method_44_code, 4, (some .long), 137)
def ps_m100 : Nat × String × String × ByteArray × Nat × Option FieldType × Nat := (6, "isRow", "(I)Z", prog_1_method_45_code, 1, (some .boolean), 16)
def ps_m101 : Nat × String × String × ByteArray × Nat × Option FieldType × Nat := (6, "isText", "(I)Z", prog_1_method_46_code, 1, (some .boolean), 15)
def ps_m102 : Nat × String × String × ByteArray × Nat × Option FieldType × Nat := (6, "isKept", "(I)Z", prog_1_method_47_code, 1, (some .boolean), 15)
def ps_m103 : Nat × String × String × ByteArray × Nat × Option FieldType × Nat := (6, "isAct", "(I)Z", prog_1_method_48_code, 1, (some .boolean), 16)
def ps_m104 : Nat × String × String × ByteArray × Nat × Option FieldType × Nat := (6, "isChance", "(III)Z", prog_1_method_49_code, 3, (some .boolean), 33)
def ps_m105 : Nat × String × String × ByteArray × Nat × Option FieldType × Nat := (6, "isOf", "(II)Z", prog_1_method_50_code, 2, (some .boolean), 31)
def ps_m106 : Nat × String × String × ByteArray × Nat × Option FieldType × Nat := (6, "entry", "([II)I", prog_1_method_51_code, 2, (some .int), 18)
def ps_m107 : Nat × String × String × ByteArray × Nat × Option FieldType × Nat := (6, "find", "(I)I", prog_1_method_52_code, 2, (some .int), 28)
def ps_m108 : Nat × String × String × ByteArray × Nat × Option FieldType × Nat := (6, "ofGang", "(II)I", prog_1_method_53_code, 5, (some .int), 85)
def ps_m109 : Nat × String × String × ByteArray × Nat × Option FieldType × Nat := (6, "ofShip", "(I)I", prog_1_method_54_code, 2, (some .int), 144)
def ps_m110 : Nat × String × String × ByteArray × Nat × Option FieldType × Nat := (6, "tally", "(I)I", prog_1_method_55_code, 2, (some .int), 113)
def ps_m111 : Nat × String × String × ByteArray × Nat × Option FieldType × Nat := (6, "countRows", "()I", prog_1_method_56_code, 3, (some .int), 38)
def ps_m112 : Nat × String × String × ByteArray × Nat × Option FieldType × Nat := (6, "countTexts", "()I", prog_1_method_57_code, 3, (some .int), 37)
def ps_m113 : Nat × String × String × ByteArray × Nat × Option FieldType × Nat := (6, "countKept", "()I", prog_1_method_58_code, 3, (some .int), 37)
def ps_m114 : Nat × String × String × ByteArray × Nat × Option FieldType × Nat := (6, "digestShip", "(J)J", prog_1_method_59_code, 7, (some .long), 98)
def ps_m115 : Nat × String × String × ByteArray × Nat × Option FieldType × Nat := (6, "strengthBehind", "(II)I", prog_1_method_60_code, 2, (some .int), 14)
def ps_m116 : Nat × String × String × ByteArray × Nat × Option FieldType × Nat := (6, "waterBehind", "(II)I", prog_1_method_61_code, 3, (some .int), 28)
def ps_m117 : Nat × String × String × ByteArray × Nat × Option FieldType × Nat := (6, "tenTo", "(I)I", prog_1_method_62_code, 3, (some .int), 22)
def ps_m118 : Nat × String × String × ByteArray × Nat × Option FieldType × Nat := (6, "twelveTo", "(I)J", prog_1_method_63_code, 4, (some .long), 23)
def ps_m119 : Nat × String × String × ByteArray × Nat × Option FieldType × Nat := (6, "spellOut", "(II)V", prog_1_method_64_code, 5, none, 39)
def ps_m120 : Nat × String × String × ByteArray × Nat × Option FieldType × Nat := (6, "findingOfPairs", "(LPumpSpells$Row;)I", prog_1_method_65_code, 4, (some .int), 87)
def ps_m121 : Nat × String × String × ByteArray × Nat × Option FieldType × Nat := (6, "isSoIfOf", "(IILPumpSpells$Row;)Z", prog_1_method_66_code, 4, (some .boolean), 30)
def ps_m122 : Nat × String × String × ByteArray × Nat × Option FieldType × Nat := (6, "weigh", "(IIIZ)J", prog_1_method_67_code, 12, (some .long), 145)
def ps_m123 : Nat × String × String × ByteArray × Nat × Option FieldType × Nat := (6, "tellChance", "(JJ)V", prog_1_method_68_code, 7, none, 46)
def ps_m124 : Nat × String × String × ByteArray × Nat × Option FieldType × Nat := (6, "commonDivisor", "(JJ)J", prog_1_method_69_code, 11, (some .long), 47)
def ps_m125 : Nat × String × String × ByteArray × Nat × Option FieldType × Nat := (6, "drawAct", "(IJ)I", prog_1_method_70_code, 6, (some .int), 59)
def ps_m126 : Nat × String × String × ByteArray × Nat × Option FieldType × Nat := (7, "<init>", "()V", prog_10_method_1_code, 2, none, 142)
def ps_m127 : Nat × String × String × ByteArray × Nat × Option FieldType × Nat := (7, "in", "(JJJ)Z", prog_10_method_2_code, 6, (some .boolean), 19)
def ps_m128 : Nat × String × String × ByteArray × Nat × Option FieldType × Nat := (7, "has", "(II)Z", prog_10_method_3_code, 2, (some .boolean), 15)
def ps_m129 : Nat × String × String × ByteArray × Nat × Option FieldType × Nat := (7, "find", "(I)I", prog_10_method_4_code, 2, (some .int), 18)
def ps_m130 : Nat × String × String × ByteArray × Nat × Option FieldType × Nat := (7, "told", "(I)I", prog_10_method_5_code, 2, (some .int), 7)
def ps_m131 : Nat × String × String × ByteArray × Nat × Option FieldType × Nat := (7, "isRow", "(I)Z", prog_10_method_6_code, 1, (some .boolean), 10)
def ps_m132 : Nat × String × String × ByteArray × Nat × Option FieldType × Nat := (7, "isText", "(I)Z", prog_10_method_7_code, 1, (some .boolean), 10)
def ps_m133 : Nat × String × String × ByteArray × Nat × Option FieldType × Nat := (7, "row", "(II)I", prog_10_method_8_code, 3, (some .int), 33)
def ps_m134 : Nat × String × String × ByteArray × Nat × Option FieldType × Nat := (7, "makeRow", "(II)V", prog_10_method_9_code, 4, none, 34)
def ps_m135 : Nat × String × String × ByteArray × Nat × Option FieldType × Nat := (7, "refused", "(II)I", prog_10_method_10_code, 3, (some .int), 56)
def ps_m136 : Nat × String × String × ByteArray × Nat × Option FieldType × Nat := (7, "lay", "(III)I", prog_10_method_11_code, 6, (some .int), 48)
def ps_m137 : Nat × String × String × ByteArray × Nat × Option FieldType × Nat := (7, "at", "(II)I", prog_10_method_12_code, 4, (some .int), 31)
def ps_m138 : Nat × String × String × ByteArray × Nat × Option FieldType × Nat := (7, "tear", "(I)I", prog_10_method_13_code, 2, (some .int), 33)
def ps_m139 : Nat × String × String × ByteArray × Nat × Option FieldType × Nat := (7, "isSpan", "(III)Z", prog_10_method_14_code, 4, (some .boolean), 26)
def ps_m140 : Nat × String × String × ByteArray × Nat × Option FieldType × Nat := (7, "copy", "(IIIII)I", prog_10_method_15_code, 9, (some .int), 159)
def ps_m141 : Nat × String × String × ByteArray × Nat × Option FieldType × Nat := (7, "mean", "(I)I", prog_10_method_16_code, 5, (some .int), 92)
def ps_m142 : Nat × String × String × ByteArray × Nat × Option FieldType × Nat := (7, "text", "(II)I", prog_10_method_17_code, 4, (some .int), 61)
def ps_m143 : Nat × String × String × ByteArray × Nat × Option FieldType × Nat := (7, "put", "(III)I", prog_10_method_18_code, 5, (some .int), 81)
def ps_m144 : Nat × String × String × ByteArray × Nat × Option FieldType × Nat := (7, "here", "()I", prog_10_method_19_code, 1, (some .int), 15)
def ps_m145 : Nat × String × String × ByteArray × Nat × Option FieldType × Nat := (7, "skip", "()V", prog_10_method_20_code, 1, none, 34)
def ps_m146 : Nat × String × String × ByteArray × Nat × Option FieldType × Nat := (7, "figure", "(II)I", prog_10_method_21_code, 3, (some .int), 65)
def ps_m147 : Nat × String × String × ByteArray × Nat × Option FieldType × Nat := (7, "kindOfLetter", "(I)I", prog_10_method_22_code, 1, (some .int), 63)
def ps_m148 : Nat × String × String × ByteArray × Nat × Option FieldType × Nat := (7, "readsShip", "()Z", prog_10_method_23_code, 3, (some .boolean), 199)
def ps_m149 : Nat × String × String × ByteArray × Nat × Option FieldType × Nat := (7, "readsGang", "()Z", prog_10_method_24_code, 3, (some .boolean), 93)
def ps_m150 : Nat × String × String × ByteArray × Nat × Option FieldType × Nat := (7, "faultOf", "(I)I", prog_10_method_25_code, 3, (some .int), 85)
def ps_m151 : Nat × String × String × ByteArray × Nat × Option FieldType × Nat := (7, "fault", "(I)I", prog_10_method_26_code, 2, (some .int), 32)
def ps_m152 : Nat × String × String × ByteArray × Nat × Option FieldType × Nat := (7, "ship", "(I)I", prog_10_method_27_code, 3, (some .int), 202)
def ps_m153 : Nat × String × String × ByteArray × Nat × Option FieldType × Nat := (7, "isGang", "(I)Z", prog_10_method_28_code, 2, (some .boolean), 14)
def ps_m154 : Nat × String × String × ByteArray × Nat × Option FieldType × Nat := (7, "isRacing", "(I)Z", prog_10_method_29_code, 1, (some .boolean), 16)
def ps_m155 : Nat × String × String × ByteArray × Nat × Option FieldType × Nat := (7, "isSung", "(I)Z", prog_10_method_30_code, 1, (some .boolean), 16)
def ps_m156 : Nat × String × String × ByteArray × Nat × Option FieldType × Nat := (7, "needs", "(I)I", prog_10_method_31_code, 1, (some .int), 24)
def ps_m157 : Nat × String × String × ByteArray × Nat × Option FieldType × Nat := (7, "pumps", "(III)I", prog_10_method_32_code, 4, (some .int), 68)
def ps_m158 : Nat × String × String × ByteArray × Nat × Option FieldType × Nat := (7, "behind", "(II)I", prog_10_method_33_code, 2, (some .int), 19)
def ps_m159 : Nat × String × String × ByteArray × Nat × Option FieldType × Nat := (7, "pumpsNow", "(I)I", prog_10_method_34_code, 2, (some .int), 25)
def ps_m160 : Nat × String × String × ByteArray × Nat × Option FieldType × Nat := (7, "toldOf", "(II)I", prog_10_method_35_code, 3, (some .int), 84)
def ps_m161 : Nat × String × String × ByteArray × Nat × Option FieldType × Nat := (7, "gang", "(II)I", prog_10_method_36_code, 3, (some .int), 35)
def ps_m162 : Nat × String × String × ByteArray × Nat × Option FieldType × Nat := (7, "isOf", "(II)Z", prog_10_method_37_code, 3, (some .boolean), 46)
def ps_m163 : Nat × String × String × ByteArray × Nat × Option FieldType × Nat := (7, "singing", "()I", prog_10_method_38_code, 3, (some .int), 52)
def ps_m164 : Nat × String × String × ByteArray × Nat × Option FieldType × Nat := (7, "mark", "(II)I", prog_10_method_39_code, 4, (some .int), 132)
def ps_m165 : Nat × String × String × ByteArray × Nat × Option FieldType × Nat := (7, "force", "(II)I", prog_10_method_40_code, 4, (some .int), 49)
def ps_m166 : Nat × String × String × ByteArray × Nat × Option FieldType × Nat := (7, "cut", "(I)V", prog_10_method_41_code, 2, none, 52)
def ps_m167 : Nat × String × String × ByteArray × Nat × Option FieldType × Nat := (7, "leaking", "(I)I", prog_10_method_42_code, 3, (some .int), 58)
def ps_m168 : Nat × String × String × ByteArray × Nat × Option FieldType × Nat := (7, "isSunk", "(I)Z", prog_10_method_43_code, 2, (some .boolean), 19)
def ps_m169 : Nat × String × String × ByteArray × Nat × Option FieldType × Nat := (7, "isOver", "(I)Z", prog_10_method_44_code, 2, (some .boolean), 29)
def ps_m170 : Nat × String × String × ByteArray × Nat × Option FieldType × Nat := (7, "may", "(II)Z", prog_10_method_45_code, 3, (some .boolean), 60)
def ps_m171 : Nat × String × String × ByteArray × Nat × Option FieldType × Nat := (7, "pass", "(II)V", prog_10_method_46_code, 8, none, 332)
def ps_m172 : Nat × String × String × ByteArray × Nat × Option FieldType × Nat := (7, "isAct", "(I)Z", prog_10_method_47_code, 1, (some .boolean), 10)
def ps_m173 : Nat × String × String × ByteArray × Nat × Option FieldType × Nat := (7, "tellOf", "(I)I", prog_10_method_48_code, 2, (some .int), 122)
def ps_m174 : Nat × String × String × ByteArray × Nat × Option FieldType × Nat := (7, "tell", "(I)I", prog_10_method_49_code, 2, (some .int), 36)
def ps_m175 : Nat × String × String × ByteArray × Nat × Option FieldType × Nat := (7, "canNow", "()I", prog_10_method_50_code, 3, (some .int), 45)
def ps_m176 : Nat × String × String × ByteArray × Nat × Option FieldType × Nat := (7, "can", "()I", prog_10_method_51_code, 1, (some .int), 17)
def ps_m177 : Nat × String × String × ByteArray × Nat × Option FieldType × Nat := (7, "doAct", "(I)V", prog_10_method_52_code, 3, none, 48)
def ps_m178 : Nat × String × String × ByteArray × Nat × Option FieldType × Nat := (7, "act", "(I)I", prog_10_method_53_code, 2, (some .int), 42)
def ps_m179 : Nat × String × String × ByteArray × Nat × Option FieldType × Nat := (7, "undo", "(I)I", prog_10_method_54_code, 4, (some .int), 97)
def ps_m180 : Nat × String × String × ByteArray × Nat × Option FieldType × Nat := (7, "copyShip", "(III)V", prog_10_method_55_code, 5, none, 34)
def ps_m181 : Nat × String × String × ByteArray × Nat × Option FieldType × Nat := (7, "keep", "(I)I", prog_10_method_56_code, 2, (some .int), 46)
def ps_m182 : Nat × String × String × ByteArray × Nat × Option FieldType × Nat := (7, "on", "(I)I", prog_10_method_57_code, 2, (some .int), 59)
def ps_m183 : Nat × String × String × ByteArray × Nat × Option FieldType × Nat := (7, "layTried", "()V", prog_10_method_58_code, 1, none, 11)
def ps_m184 : Nat × String × String × ByteArray × Nat × Option FieldType × Nat := (7, "areActs", "(I)Z", prog_10_method_59_code, 4, (some .boolean), 49)
def ps_m185 : Nat × String × String × ByteArray × Nat × Option FieldType × Nat := (7, "run", "(I)I", prog_10_method_60_code, 5, (some .int), 169)
def ps_m186 : Nat × String × String × ByteArray × Nat × Option FieldType × Nat := (7, "power", "(I)I", prog_10_method_61_code, 3, (some .int), 22)
def ps_m187 : Nat × String × String × ByteArray × Nat × Option FieldType × Nat := (7, "actOf", "(III)I", prog_10_method_62_code, 3, (some .int), 14)
def ps_m188 : Nat × String × String × ByteArray × Nat × Option FieldType × Nat := (7, "keeps", "(II)Z", prog_10_method_63_code, 6, (some .boolean), 107)
def ps_m189 : Nat × String × String × ByteArray × Nat × Option FieldType × Nat := (7, "toRow", "(III)V", prog_10_method_64_code, 5, none, 41)
def ps_m190 : Nat × String × String × ByteArray × Nat × Option FieldType × Nat := (7, "best", "(II)I", prog_10_method_65_code, 7, (some .int), 142)
def ps_m191 : Nat × String × String × ByteArray × Nat × Option FieldType × Nat := (7, "afloat", "(I)I", prog_10_method_66_code, 5, (some .int), 74)
def ps_m192 : Nat × String × String × ByteArray × Nat × Option FieldType × Nat := (7, "firsts", "(I)I", prog_10_method_67_code, 4, (some .int), 68)
def ps_m193 : Nat × String × String × ByteArray × Nat × Option FieldType × Nat := (7, "turn", "(I)V", prog_10_method_68_code, 2, none, 25)
def ps_m194 : Nat × String × String × ByteArray × Nat × Option FieldType × Nat := (7, "rota", "(I)I", prog_10_method_69_code, 2, (some .int), 155)
def ps_m195 : Nat × String × String × ByteArray × Nat × Option FieldType × Nat := (7, "lands", "(II)Z", prog_10_method_70_code, 4, (some .boolean), 50)
def ps_m196 : Nat × String × String × ByteArray × Nat × Option FieldType × Nat := (7, "watch", "(II)I", prog_10_method_71_code, 7, (some .int), 142)
def ps_m197 : Nat × String × String × ByteArray × Nat × Option FieldType × Nat := (7, "lasts", "(I)I", prog_10_method_72_code, 3, (some .int), 63)
def ps_m198 : Nat × String × String × ByteArray × Nat × Option FieldType × Nat := (7, "waterBy", "(II)I", prog_10_method_73_code, 4, (some .int), 41)
def ps_m199 : Nat × String × String × ByteArray × Nat × Option FieldType × Nat := (7, "inches", "(III)I", prog_10_method_74_code, 4, (some .int), 58)
def ps_m200 : Nat × String × String × ByteArray × Nat × Option FieldType × Nat := (7, "lighten", "(I)I", prog_10_method_75_code, 3, (some .int), 98)
def ps_m201 : Nat × String × String × ByteArray × Nat × Option FieldType × Nat := (7, "rest", "(I)I", prog_10_method_76_code, 2, (some .int), 32)
def ps_m202 : Nat × String × String × ByteArray × Nat × Option FieldType × Nat := (7, "gains", "(I)I", prog_10_method_77_code, 4, (some .int), 97)
def ps_m203 : Nat × String × String × ByteArray × Nat × Option FieldType × Nat := (7, "canAll", "(I)Z", prog_10_method_78_code, 5, (some .boolean), 97)
def ps_m204 : Nat × String × String × ByteArray × Nat × Option FieldType × Nat := (7, "isSo", "(I)Z", prog_10_method_79_code, 4, (some .boolean), 78)
def ps_m205 : Nat × String × String × ByteArray × Nat × Option FieldType × Nat := (7, "noPairs", "(I)I", prog_10_method_80_code, 2, (some .int), 54)
def ps_m206 : Nat × String × String × ByteArray × Nat × Option FieldType × Nat := (7, "isSoAs", "(III)Z", prog_10_method_81_code, 6, (some .boolean), 33)
def ps_m207 : Nat × String × String × ByteArray × Nat × Option FieldType × Nat := (7, "feigns", "(I)I", prog_10_method_82_code, 5, (some .int), 92)
def ps_m208 : Nat × String × String × ByteArray × Nat × Option FieldType × Nat := (7, "kinds", "(II)I", prog_10_method_83_code, 6, (some .int), 75)
def ps_m209 : Nat × String × String × ByteArray × Nat × Option FieldType × Nat := (7, "leaks", "(I)I", prog_10_method_84_code, 6, (some .int), 90)
def ps_m210 : Nat × String × String × ByteArray × Nat × Option FieldType × Nat := (7, "tellParts", "(JJ)I", prog_10_method_85_code, 11, (some .int), 49)
def ps_m211 : Nat × String × String × ByteArray × Nat × Option FieldType × Nat := (7, "tryChokes", "(III)V", prog_10_method_86_code, 6, none, 96)
def ps_m212 : Nat × String × String × ByteArray × Nat × Option FieldType × Nat := (7, "waysOf", "(III)J", prog_10_method_87_code, 6, (some .long), 41)
def ps_m213 : Nat × String × String × ByteArray × Nat × Option FieldType × Nat := (7, "isChance", "(III)Z", prog_10_method_88_code, 3, (some .boolean), 37)
def ps_m214 : Nat × String × String × ByteArray × Nat × Option FieldType × Nat := (7, "tellChances", "(IIIZ)I", prog_10_method_89_code, 13, (some .int), 110)
def ps_m215 : Nat × String × String × ByteArray × Nat × Option FieldType × Nat := (7, "odds", "(III)I", prog_10_method_90_code, 4, (some .int), 32)
def ps_m216 : Nat × String × String × ByteArray × Nat × Option FieldType × Nat := (7, "mid", "(III)I", prog_10_method_91_code, 4, (some .int), 32)
def ps_m217 : Nat × String × String × ByteArray × Nat × Option FieldType × Nat := (7, "nthOf", "(II)I", prog_10_method_92_code, 4, (some .int), 32)
def ps_m218 : Nat × String × String × ByteArray × Nat × Option FieldType × Nat := (7, "many", "(I)I", prog_10_method_93_code, 3, (some .int), 26)
def ps_m219 : Nat × String × String × ByteArray × Nat × Option FieldType × Nat := (7, "lots", "(II)I", prog_10_method_94_code, 6, (some .int), 96)
def ps_m220 : Nat × String × String × ByteArray × Nat × Option FieldType × Nat := (7, "asked", "()I", prog_10_method_95_code, 1, (some .int), 5)
def ps_m221 : Nat × String × String × ByteArray × Nat × Option FieldType × Nat := (7, "upper", "()J", prog_10_method_96_code, 1, (some .long), 5)
def ps_m222 : Nat × String × String × ByteArray × Nat × Option FieldType × Nat := (7, "lower", "()J", prog_10_method_97_code, 1, (some .long), 5)
def ps_m223 : Nat × String × String × ByteArray × Nat × Option FieldType × Nat := (7, "strengthOfAll", "()I", prog_10_method_98_code, 3, (some .int), 32)
def ps_m224 : Nat × String × String × ByteArray × Nat × Option FieldType × Nat := (7, "kindMany", "(I)I", prog_10_method_99_code, 4, (some .int), 37)
def ps_m225 : Nat × String × String × ByteArray × Nat × Option FieldType × Nat := (7, "thereOf", "(I)I", prog_10_method_100_code, 4, (some .int), 99)
def ps_m226 : Nat × String × String × ByteArray × Nat × Option FieldType × Nat := (7, "countOf", "(I)I", prog_10_method_101_code, 2, (some .int), 82)
def ps_m227 : Nat × String × String × ByteArray × Nat × Option FieldType × Nat := (7, "count", "(I)I", prog_10_method_102_code, 2, (some .int), 22)
def ps_m228 : Nat × String × String × ByteArray × Nat × Option FieldType × Nat := (7, "finding", "()I", prog_10_method_103_code, 1, (some .int), 5)
def ps_m229 : Nat × String × String × ByteArray × Nat × Option FieldType × Nat := (7, "findings", "(I)I", prog_10_method_104_code, 2, (some .int), 23)
def ps_m230 : Nat × String × String × ByteArray × Nat × Option FieldType × Nat := (7, "digest", "()J", prog_10_method_105_code, 5, (some .long), 271)
def ps_m231 : Nat × String × String × ByteArray × Nat × Option FieldType × Nat := (10, "bitCount", "(I)I", prog_11_method_49_code, 1, (some .int), 53)
def ps_m232 : Nat × String × String × ByteArray × Nat × Option FieldType × Nat := (11, "max", "(II)I", prog_12_method_65_code, 2, (some .int), 11)
def ps_m233 : Nat × String × String × ByteArray × Nat × Option FieldType × Nat := (11, "min", "(II)I", prog_12_method_69_code, 2, (some .int), 11)
def ps_m234 : Nat × String × String × ByteArray × Nat × Option FieldType × Nat := (12, "rangeCheck", "(III)V", prog_14_method_30_code, 3, none, 74)
def ps_m235 : Nat × String × String × ByteArray × Nat × Option FieldType × Nat := (12, "fill", "([IIII)V", prog_14_method_104_code, 5, none, 28)
def ps_m236 : Nat × String × String × ByteArray × Nat × Option FieldType × Nat := (12, "fill", "([BIIB)V", prog_14_method_110_code, 5, none, 28)
def ps_m237 : Nat × String × String × ByteArray × Nat × Option FieldType × Nat := (9, "law", "([I)Z", code, 4, (some .boolean), 1400)
def ps_m (j : Nat) : Nat × String × String × ByteArray × Nat × Option FieldType × Nat := (bif Nat.blt j 119 then (bif Nat.blt j 59 then (bif Nat.blt j 29 then (bif Nat.blt j 14 then (bif Nat.blt j 7 then (bif Nat.blt j 3 then (bif Nat.blt j 1 then ps_m0 else (bif Nat.blt j 2 then ps_m1 else ps_m2)) else (bif Nat.blt j 5 then (bif Nat.blt j 4 then ps_m3 else ps_m4) else (bif Nat.blt j 6 then ps_m5 else ps_m6))) else (bif Nat.blt j 10 then (bif Nat.blt j 8 then ps_m7 else (bif Nat.blt j 9 then ps_m8 else ps_m9)) else (bif Nat.blt j 12 then (bif Nat.blt j 11 then ps_m10 else ps_m11) else (bif Nat.blt j 13 then ps_m12 else ps_m13)))) else (bif Nat.blt j 21 then (bif Nat.blt j 17 then (bif Nat.blt j 15 then ps_m14 else (bif Nat.blt j 16 then ps_m15 else ps_m16)) else (bif Nat.blt j 19 then (bif Nat.blt j 18 then ps_m17 else ps_m18) else (bif Nat.blt j 20 then ps_m19 else ps_m20))) else (bif Nat.blt j 25 then (bif Nat.blt j 23 then (bif Nat.blt j 22 then ps_m21 else ps_m22) else (bif Nat.blt j 24 then ps_m23 else ps_m24)) else (bif Nat.blt j 27 then (bif Nat.blt j 26 then ps_m25 else ps_m26) else (bif Nat.blt j 28 then ps_m27 else ps_m28))))) else (bif Nat.blt j 44 then (bif Nat.blt j 36 then (bif Nat.blt j 32 then (bif Nat.blt j 30 then ps_m29 else (bif Nat.blt j 31 then ps_m30 else ps_m31)) else (bif Nat.blt j 34 then (bif Nat.blt j 33 then ps_m32 else ps_m33) else (bif Nat.blt j 35 then ps_m34 else ps_m35))) else (bif Nat.blt j 40 then (bif Nat.blt j 38 then (bif Nat.blt j 37 then ps_m36 else ps_m37) else (bif Nat.blt j 39 then ps_m38 else ps_m39)) else (bif Nat.blt j 42 then (bif Nat.blt j 41 then ps_m40 else ps_m41) else (bif Nat.blt j 43 then ps_m42 else ps_m43)))) else (bif Nat.blt j 51 then (bif Nat.blt j 47 then (bif Nat.blt j 45 then ps_m44 else (bif Nat.blt j 46 then ps_m45 else ps_m46)) else (bif Nat.blt j 49 then (bif Nat.blt j 48 then ps_m47 else ps_m48) else (bif Nat.blt j 50 then ps_m49 else ps_m50))) else (bif Nat.blt j 55 then (bif Nat.blt j 53 then (bif Nat.blt j 52 then ps_m51 else ps_m52) else (bif Nat.blt j 54 then ps_m53 else ps_m54)) else (bif Nat.blt j 57 then (bif Nat.blt j 56 then ps_m55 else ps_m56) else (bif Nat.blt j 58 then ps_m57 else ps_m58)))))) else (bif Nat.blt j 89 then (bif Nat.blt j 74 then (bif Nat.blt j 66 then (bif Nat.blt j 62 then (bif Nat.blt j 60 then ps_m59 else (bif Nat.blt j 61 then ps_m60 else ps_m61)) else (bif Nat.blt j 64 then (bif Nat.blt j 63 then ps_m62 else ps_m63) else (bif Nat.blt j 65 then ps_m64 else ps_m65))) else (bif Nat.blt j 70 then (bif Nat.blt j 68 then (bif Nat.blt j 67 then ps_m66 else ps_m67) else (bif Nat.blt j 69 then ps_m68 else ps_m69)) else (bif Nat.blt j 72 then (bif Nat.blt j 71 then ps_m70 else ps_m71) else (bif Nat.blt j 73 then ps_m72 else ps_m73)))) else (bif Nat.blt j 81 then (bif Nat.blt j 77 then (bif Nat.blt j 75 then ps_m74 else (bif Nat.blt j 76 then ps_m75 else ps_m76)) else (bif Nat.blt j 79 then (bif Nat.blt j 78 then ps_m77 else ps_m78) else (bif Nat.blt j 80 then ps_m79 else ps_m80))) else (bif Nat.blt j 85 then (bif Nat.blt j 83 then (bif Nat.blt j 82 then ps_m81 else ps_m82) else (bif Nat.blt j 84 then ps_m83 else ps_m84)) else (bif Nat.blt j 87 then (bif Nat.blt j 86 then ps_m85 else ps_m86) else (bif Nat.blt j 88 then ps_m87 else ps_m88))))) else (bif Nat.blt j 104 then (bif Nat.blt j 96 then (bif Nat.blt j 92 then (bif Nat.blt j 90 then ps_m89 else (bif Nat.blt j 91 then ps_m90 else ps_m91)) else (bif Nat.blt j 94 then (bif Nat.blt j 93 then ps_m92 else ps_m93) else (bif Nat.blt j 95 then ps_m94 else ps_m95))) else (bif Nat.blt j 100 then (bif Nat.blt j 98 then (bif Nat.blt j 97 then ps_m96 else ps_m97) else (bif Nat.blt j 99 then ps_m98 else ps_m99)) else (bif Nat.blt j 102 then (bif Nat.blt j 101 then ps_m100 else ps_m101) else (bif Nat.blt j 103 then ps_m102 else ps_m103)))) else (bif Nat.blt j 111 then (bif Nat.blt j 107 then (bif Nat.blt j 105 then ps_m104 else (bif Nat.blt j 106 then ps_m105 else ps_m106)) else (bif Nat.blt j 109 then (bif Nat.blt j 108 then ps_m107 else ps_m108) else (bif Nat.blt j 110 then ps_m109 else ps_m110))) else (bif Nat.blt j 115 then (bif Nat.blt j 113 then (bif Nat.blt j 112 then ps_m111 else ps_m112) else (bif Nat.blt j 114 then ps_m113 else ps_m114)) else (bif Nat.blt j 117 then (bif Nat.blt j 116 then ps_m115 else ps_m116) else (bif Nat.blt j 118 then ps_m117 else ps_m118))))))) else (bif Nat.blt j 178 then (bif Nat.blt j 148 then (bif Nat.blt j 133 then (bif Nat.blt j 126 then (bif Nat.blt j 122 then (bif Nat.blt j 120 then ps_m119 else (bif Nat.blt j 121 then ps_m120 else ps_m121)) else (bif Nat.blt j 124 then (bif Nat.blt j 123 then ps_m122 else ps_m123) else (bif Nat.blt j 125 then ps_m124 else ps_m125))) else (bif Nat.blt j 129 then (bif Nat.blt j 127 then ps_m126 else (bif Nat.blt j 128 then ps_m127 else ps_m128)) else (bif Nat.blt j 131 then (bif Nat.blt j 130 then ps_m129 else ps_m130) else (bif Nat.blt j 132 then ps_m131 else ps_m132)))) else (bif Nat.blt j 140 then (bif Nat.blt j 136 then (bif Nat.blt j 134 then ps_m133 else (bif Nat.blt j 135 then ps_m134 else ps_m135)) else (bif Nat.blt j 138 then (bif Nat.blt j 137 then ps_m136 else ps_m137) else (bif Nat.blt j 139 then ps_m138 else ps_m139))) else (bif Nat.blt j 144 then (bif Nat.blt j 142 then (bif Nat.blt j 141 then ps_m140 else ps_m141) else (bif Nat.blt j 143 then ps_m142 else ps_m143)) else (bif Nat.blt j 146 then (bif Nat.blt j 145 then ps_m144 else ps_m145) else (bif Nat.blt j 147 then ps_m146 else ps_m147))))) else (bif Nat.blt j 163 then (bif Nat.blt j 155 then (bif Nat.blt j 151 then (bif Nat.blt j 149 then ps_m148 else (bif Nat.blt j 150 then ps_m149 else ps_m150)) else (bif Nat.blt j 153 then (bif Nat.blt j 152 then ps_m151 else ps_m152) else (bif Nat.blt j 154 then ps_m153 else ps_m154))) else (bif Nat.blt j 159 then (bif Nat.blt j 157 then (bif Nat.blt j 156 then ps_m155 else ps_m156) else (bif Nat.blt j 158 then ps_m157 else ps_m158)) else (bif Nat.blt j 161 then (bif Nat.blt j 160 then ps_m159 else ps_m160) else (bif Nat.blt j 162 then ps_m161 else ps_m162)))) else (bif Nat.blt j 170 then (bif Nat.blt j 166 then (bif Nat.blt j 164 then ps_m163 else (bif Nat.blt j 165 then ps_m164 else ps_m165)) else (bif Nat.blt j 168 then (bif Nat.blt j 167 then ps_m166 else ps_m167) else (bif Nat.blt j 169 then ps_m168 else ps_m169))) else (bif Nat.blt j 174 then (bif Nat.blt j 172 then (bif Nat.blt j 171 then ps_m170 else ps_m171) else (bif Nat.blt j 173 then ps_m172 else ps_m173)) else (bif Nat.blt j 176 then (bif Nat.blt j 175 then ps_m174 else ps_m175) else (bif Nat.blt j 177 then ps_m176 else ps_m177)))))) else (bif Nat.blt j 208 then (bif Nat.blt j 193 then (bif Nat.blt j 185 then (bif Nat.blt j 181 then (bif Nat.blt j 179 then ps_m178 else (bif Nat.blt j 180 then ps_m179 else ps_m180)) else (bif Nat.blt j 183 then (bif Nat.blt j 182 then ps_m181 else ps_m182) else (bif Nat.blt j 184 then ps_m183 else ps_m184))) else (bif Nat.blt j 189 then (bif Nat.blt j 187 then (bif Nat.blt j 186 then ps_m185 else ps_m186) else (bif Nat.blt j 188 then ps_m187 else ps_m188)) else (bif Nat.blt j 191 then (bif Nat.blt j 190 then ps_m189 else ps_m190) else (bif Nat.blt j 192 then ps_m191 else ps_m192)))) else (bif Nat.blt j 200 then (bif Nat.blt j 196 then (bif Nat.blt j 194 then ps_m193 else (bif Nat.blt j 195 then ps_m194 else ps_m195)) else (bif Nat.blt j 198 then (bif Nat.blt j 197 then ps_m196 else ps_m197) else (bif Nat.blt j 199 then ps_m198 else ps_m199))) else (bif Nat.blt j 204 then (bif Nat.blt j 202 then (bif Nat.blt j 201 then ps_m200 else ps_m201) else (bif Nat.blt j 203 then ps_m202 else ps_m203)) else (bif Nat.blt j 206 then (bif Nat.blt j 205 then ps_m204 else ps_m205) else (bif Nat.blt j 207 then ps_m206 else ps_m207))))) else (bif Nat.blt j 223 then (bif Nat.blt j 215 then (bif Nat.blt j 211 then (bif Nat.blt j 209 then ps_m208 else (bif Nat.blt j 210 then ps_m209 else ps_m210)) else (bif Nat.blt j 213 then (bif Nat.blt j 212 then ps_m211 else ps_m212) else (bif Nat.blt j 214 then ps_m213 else ps_m214))) else (bif Nat.blt j 219 then (bif Nat.blt j 217 then (bif Nat.blt j 216 then ps_m215 else ps_m216) else (bif Nat.blt j 218 then ps_m217 else ps_m218)) else (bif Nat.blt j 221 then (bif Nat.blt j 220 then ps_m219 else ps_m220) else (bif Nat.blt j 222 then ps_m221 else ps_m222)))) else (bif Nat.blt j 230 then (bif Nat.blt j 226 then (bif Nat.blt j 224 then ps_m223 else (bif Nat.blt j 225 then ps_m224 else ps_m225)) else (bif Nat.blt j 228 then (bif Nat.blt j 227 then ps_m226 else ps_m227) else (bif Nat.blt j 229 then ps_m228 else ps_m229))) else (bif Nat.blt j 234 then (bif Nat.blt j 232 then (bif Nat.blt j 231 then ps_m230 else ps_m231) else (bif Nat.blt j 233 then ps_m232 else ps_m233)) else (bif Nat.blt j 236 then (bif Nat.blt j 235 then ps_m234 else ps_m235) else (bif Nat.blt j 237 then ps_m236 else ps_m237))))))))
/-- fields by their links: class, index, what is named, the word's place, class by class: slot, kind, the place of sameField -/
def ps_ft : List (Nat × Nat × String × String × String × Nat × List (Nat × Nat × Nat × Nat)) := [(0, 12, "PumpSpells$Reader", "read", "LPumpSpells$Ship;", 186, [(0, 0, 2, 0)]),
  (0, 18, "PumpSpells$Reader", "text", "LPumpSpells$Text;", 188, [(0, 1, 2, 0)]),
  (0, 22, "PumpSpells$Reader", "place", "I", 189, [(0, 2, 0, 0)]),
  (0, 33, "PumpSpells$Text", "size", "I", 244, [(4, 0, 0, 245)]),
  (0, 41, "PumpSpells$Ship", "gangs", "I", 128, [(3, 8, 0, 0)]),
  (1, 9, "PumpSpells$Row", "places", "[I", 240, [(1, 1, 2, 0)]),
  (1, 19, "PumpSpells$Row", "size", "I", 246, [(1, 0, 0, 247)]),
  (2, 9, "PumpSpells$Search", "best", "[I", 206, [(2, 0, 2, 0)]),
  (2, 17, "PumpSpells$Search", "levels", "[LPumpSpells$Ship;", 214, [(2, 4, 2, 0)]),
  (2, 21, "PumpSpells$Search", "trail", "[I", 215, [(2, 5, 2, 0)]),
  (2, 34, "PumpSpells$Search", "size", "I", 216, [(2, 6, 0, 0)]),
  (2, 38, "PumpSpells$Search", "least", "I", 208, [(2, 1, 0, 0)]),
  (2, 41, "PumpSpells$Search", "many", "I", 210, [(2, 2, 0, 0)]),
  (2, 44, "PumpSpells$Search", "first", "I", 212, [(2, 3, 0, 0)]),
  (2, 70, "PumpSpells$Ship", "water", "I", 106, [(3, 0, 0, 0)]),
  (3, 9, "PumpSpells$Ship", "kinds", "[I", 130, [(3, 9, 2, 0)]),
  (3, 15, "PumpSpells$Ship", "forces", "[I", 132, [(3, 10, 2, 0)]),
  (3, 18, "PumpSpells$Ship", "strengths", "[I", 134, [(3, 11, 2, 0)]),
  (3, 21, "PumpSpells$Ship", "water", "I", 104, [(3, 0, 0, 0)]),
  (3, 25, "PumpSpells$Ship", "leak", "I", 108, [(3, 1, 0, 0)]),
  (3, 28, "PumpSpells$Ship", "cargo", "I", 110, [(3, 2, 0, 0)]),
  (3, 31, "PumpSpells$Ship", "thrown", "I", 113, [(3, 3, 0, 0)]),
  (3, 34, "PumpSpells$Ship", "hours", "I", 116, [(3, 4, 0, 0)]),
  (3, 37, "PumpSpells$Ship", "passed", "I", 118, [(3, 5, 0, 0)]),
  (3, 40, "PumpSpells$Ship", "choke", "I", 121, [(3, 6, 0, 0)]),
  (3, 43, "PumpSpells$Ship", "isSailSet", "Z", 124, [(3, 7, 3, 0)]),
  (3, 47, "PumpSpells$Ship", "gangs", "I", 127, [(3, 8, 0, 0)]),
  (3, 115, "PumpSpells$Row", "size", "I", 250, [(1, 0, 0, 247)]),
  (3, 120, "PumpSpells$Row", "places", "[I", 242, [(1, 1, 2, 0)]),
  (8, 9, "PumpSpells$Strip", "size", "I", 243, [(1, 0, 0, 0), (4, 0, 0, 0)]),
  (4, 9, "PumpSpells$Text", "bytes", "[B", 261, [(4, 1, 2, 0)]),
  (4, 28, "PumpSpells$Text", "size", "I", 248, [(4, 0, 0, 245)]),
  (5, 12, "PumpSpells$Voyage", "ship", "LPumpSpells$Ship;", 163, [(5, 0, 2, 0)]),
  (5, 18, "PumpSpells$Voyage", "isThere", "Z", 165, [(5, 1, 3, 0)]),
  (5, 22, "PumpSpells$Voyage", "past", "[I", 167, [(5, 2, 2, 0)]),
  (5, 36, "PumpSpells$Ship", "passed", "I", 119, [(3, 5, 0, 0)]),
  (5, 40, "PumpSpells$Ship", "water", "I", 105, [(3, 0, 0, 0)]),
  (5, 43, "PumpSpells$Ship", "cargo", "I", 111, [(3, 2, 0, 0)]),
  (5, 46, "PumpSpells$Ship", "thrown", "I", 114, [(3, 3, 0, 0)]),
  (5, 49, "PumpSpells$Ship", "choke", "I", 122, [(3, 6, 0, 0)]),
  (5, 52, "PumpSpells$Ship", "isSailSet", "Z", 125, [(3, 7, 3, 0)]),
  (5, 55, "PumpSpells$Ship", "strengths", "[I", 135, [(3, 11, 2, 0)]),
  (6, 11, "PumpSpells", "rows", "[LPumpSpells$Row;", 268, [(6, 0, 2, 0)]),
  (6, 17, "PumpSpells", "texts", "[LPumpSpells$Text;", 269, [(6, 1, 2, 0)]),
  (6, 24, "PumpSpells", "now", "LPumpSpells$Voyage;", 270, [(6, 2, 2, 0)]),
  (6, 28, "PumpSpells", "kept", "[LPumpSpells$Voyage;", 271, [(6, 3, 2, 0)]),
  (6, 32, "PumpSpells$Voyage", "ship", "LPumpSpells$Ship;", 164, [(5, 0, 2, 0)]),
  (6, 36, "PumpSpells", "ship", "LPumpSpells$Ship;", 272, [(6, 4, 2, 0)]),
  (6, 40, "PumpSpells", "aside", "LPumpSpells$Ship;", 273, [(6, 5, 2, 0)]),
  (6, 46, "PumpSpells", "reader", "LPumpSpells$Reader;", 274, [(6, 6, 2, 0)]),
  (6, 53, "PumpSpells", "search", "LPumpSpells$Search;", 275, [(6, 7, 2, 0)]),
  (6, 57, "PumpSpells", "trial", "[I", 276, [(6, 8, 2, 0)]),
  (6, 61, "PumpSpells", "answered", "[I", 277, [(6, 9, 2, 0)]),
  (6, 64, "PumpSpells", "latest", "I", 278, [(6, 10, 0, 0)]),
  (6, 68, "PumpSpells", "told", "I", 279, [(6, 11, 0, 0)]),
  (6, 71, "PumpSpells", "above", "J", 280, [(6, 12, 1, 0)]),
  (6, 75, "PumpSpells", "below", "J", 281, [(6, 13, 1, 0)]),
  (6, 95, "PumpSpells$Row", "places", "[I", 241, [(1, 1, 2, 0)]),
  (6, 102, "PumpSpells$Row", "size", "I", 249, [(1, 0, 0, 247)]),
  (6, 124, "PumpSpells$Text", "bytes", "[B", 262, [(4, 1, 2, 0)]),
  (6, 133, "PumpSpells$Reader", "read", "LPumpSpells$Ship;", 187, [(0, 0, 2, 0)]),
  (6, 140, "PumpSpells$Voyage", "isThere", "Z", 166, [(5, 1, 3, 0)]),
  (6, 144, "PumpSpells$Ship", "gangs", "I", 129, [(3, 8, 0, 0)]),
  (6, 154, "PumpSpells$Ship", "kinds", "[I", 131, [(3, 9, 2, 0)]),
  (6, 160, "PumpSpells$Ship", "strengths", "[I", 136, [(3, 11, 2, 0)]),
  (6, 175, "PumpSpells$Ship", "forces", "[I", 133, [(3, 10, 2, 0)]),
  (6, 196, "PumpSpells$Ship", "water", "I", 107, [(3, 0, 0, 0)]),
  (6, 199, "PumpSpells$Ship", "passed", "I", 120, [(3, 5, 0, 0)]),
  (6, 222, "PumpSpells$Search", "many", "I", 211, [(2, 2, 0, 0)]),
  (6, 225, "PumpSpells$Search", "best", "[I", 207, [(2, 0, 2, 0)]),
  (6, 232, "PumpSpells$Search", "least", "I", 209, [(2, 1, 0, 0)]),
  (6, 239, "PumpSpells$Search", "first", "I", 213, [(2, 3, 0, 0)]),
  (6, 261, "PumpSpells$Ship", "cargo", "I", 112, [(3, 2, 0, 0)]),
  (6, 264, "PumpSpells$Ship", "thrown", "I", 115, [(3, 3, 0, 0)]),
  (6, 282, "PumpSpells$Ship", "leak", "I", 109, [(3, 1, 0, 0)]),
  (6, 329, "PumpSpells$Ship", "isSailSet", "Z", 126, [(3, 7, 3, 0)]),
  (6, 332, "PumpSpells$Ship", "choke", "I", 123, [(3, 6, 0, 0)]),
  (6, 335, "PumpSpells$Ship", "hours", "I", 117, [(3, 4, 0, 0)]),
  (7, 7, "PumpSpellsModel", "row", "[I", 881, [(7, 0, 2, 0)]),
  (7, 13, "PumpSpellsModel", "kinds", "[I", 883, [(7, 2, 2, 0)]),
  (7, 16, "PumpSpellsModel", "sizes", "[I", 886, [(7, 5, 2, 0)]),
  (7, 19, "PumpSpellsModel", "items", "[I", 887, [(7, 6, 2, 0)]),
  (7, 22, "PumpSpellsModel", "lengths", "[I", 888, [(7, 7, 2, 0)]),
  (7, 25, "PumpSpellsModel", "bytes", "[I", 889, [(7, 8, 2, 0)]),
  (7, 28, "PumpSpellsModel", "lower", "J", 892, [(7, 11, 1, 0)]),
  (7, 32, "PumpSpellsModel", "findings", "[I", 894, [(7, 13, 2, 0)]),
  (7, 35, "PumpSpellsModel", "readGangs", "[I", 902, [(7, 21, 2, 0)]),
  (7, 38, "PumpSpellsModel", "finding", "I", 893, [(7, 12, 0, 0)]),
  (7, 42, "PumpSpellsModel", "asked", "I", 890, [(7, 9, 0, 0)]),
  (7, 79, "PumpSpellsModel", "from", "I", 895, [(7, 14, 0, 0)]),
  (7, 82, "PumpSpellsModel", "place", "I", 896, [(7, 15, 0, 0)]),
  (7, 85, "PumpSpellsModel", "end", "I", 897, [(7, 16, 0, 0)]),
  (7, 98, "PumpSpellsModel", "readWater", "I", 898, [(7, 17, 0, 0)]),
  (7, 101, "PumpSpellsModel", "readLeak", "I", 899, [(7, 18, 0, 0)]),
  (7, 104, "PumpSpellsModel", "readCargo", "I", 900, [(7, 19, 0, 0)]),
  (7, 107, "PumpSpellsModel", "readLand", "I", 901, [(7, 20, 0, 0)]),
  (7, 113, "PumpSpellsModel", "readMany", "I", 903, [(7, 22, 0, 0)]),
  (7, 126, "PumpSpellsModel", "gangs", "I", 882, [(7, 1, 0, 0)]),
  (7, 129, "PumpSpellsModel", "leak", "I", 884, [(7, 3, 0, 0)]),
  (7, 132, "PumpSpellsModel", "land", "I", 885, [(7, 4, 0, 0)]),
  (7, 231, "PumpSpellsModel", "upper", "J", 891, [(7, 10, 1, 0)])]
/-- calls by their links: kind, class, index, how many, the name, the host, class by class: callee, places of the words -/
def ps_ct : List (Nat × Nat × Nat × Nat × MethodName × String × List (Nat × Nat × List Nat)) := [(7, 0, 3, 0, ⟨"java/lang/Object", "<init>", "()V"⟩, "", [(0, 0, [183, 86, 87])]),
  (3, 0, 11, 0, ⟨"PumpSpells$Ship", "<init>", "()V"⟩, "PumpSpells", [(0, 19, [185, 101, 69, 102])]),
  (4, 0, 26, 0, ⟨"PumpSpells$Reader", "skipBlanks", "()V"⟩, "", [(0, 2, [425, 427, 1, 70, 428])]),
  (4, 0, 29, 0, ⟨"PumpSpells$Reader", "takesHull", "()Z"⟩, "", [(0, 4, [441, 443, 3, 70, 444])]),
  (4, 0, 38, 0, ⟨"PumpSpells$Reader", "takesGang", "()Z"⟩, "", [(0, 6, [453, 455, 5, 70, 456])]),
  (4, 0, 44, 0, ⟨"PumpSpells$Reader", "byteHere", "()I"⟩, "", [(0, 3, [429, 431, 2, 70, 432])]),
  (4, 0, 48, 1, ⟨"PumpSpells$Text", "valueAt", "(I)I"⟩, "", [(4, 50, [433, 434, 435, 74, 436])]),
  (4, 0, 52, 2, ⟨"PumpSpells$Reader", "takeFigure", "(II)I"⟩, "", [(0, 5, [445, 447, 4, 70, 448])]),
  (4, 0, 56, 4, ⟨"PumpSpells$Ship", "launch", "(IIII)V"⟩, "", [(3, 20, [449, 450, 451, 69, 452])]),
  (4, 0, 60, 0, ⟨"PumpSpells$Reader", "kindHere", "()I"⟩, "", [(0, 7, [457, 459, 6, 70, 460])]),
  (4, 0, 63, 2, ⟨"PumpSpells$Ship", "enlist", "(II)V"⟩, "", [(3, 21, [463, 464, 465, 69, 466])]),
  (3, 1, 3, 0, ⟨"PumpSpells$Strip", "<init>", "()V"⟩, "PumpSpells", [(0, 44, [236, 237, 72, 238])]),
  (5, 1, 15, 1, ⟨"PumpSpells$Row", "has", "(I)Z"⟩, "", [(1, 46, [868, 869, 870, 355, 72, 359])]),
  (0, 1, 32, 4, ⟨"java/util/Arrays", "fill", "([IIII)V"⟩, "", [(0, 235, [332, 333, 77, 334])]),
  (4, 1, 38, 1, ⟨"PumpSpells$Row", "renew", "(I)V"⟩, "", [(1, 11, [660, 323, 324, 73, 325])]),
  (8, 1, 42, 5, ⟨"java/lang/System", "arraycopy", "(Ljava/lang/Object;ILjava/lang/Object;II)V"⟩, "", [(0, 0, [661, 382, 381, 78])]),
  (1, 1, 48, 1, ⟨"PumpSpells", "isAct", "(I)Z"⟩, "PumpSpells", [(0, 103, [628, 574, 67, 575])]),
  (7, 2, 3, 0, ⟨"java/lang/Object", "<init>", "()V"⟩, "", [(0, 0, [202, 86, 87])]),
  (3, 2, 24, 0, ⟨"PumpSpells$Ship", "<init>", "()V"⟩, "PumpSpells", [(0, 19, [205, 101, 69, 102])]),
  (4, 2, 47, 1, ⟨"PumpSpells$Ship", "follow", "(LPumpSpells$Ship;)V"⟩, "", [(3, 22, [644, 472, 473, 69, 474])]),
  (4, 2, 51, 0, ⟨"PumpSpells$Ship", "isSunk", "()Z"⟩, "", [(3, 24, [645, 540, 541, 69, 542])]),
  (0, 2, 55, 2, ⟨"PumpSpells$Search", "explore", "(LPumpSpells$Search;I)V"⟩, "", [(0, 17, [646, 647, 71, 648])]),
  (4, 2, 59, 0, ⟨"PumpSpells$Search", "note", "()V"⟩, "", [(2, 18, [649, 651, 10, 71, 652])]),
  (4, 2, 62, 1, ⟨"PumpSpells$Ship", "canNow", "(I)Z"⟩, "", [(3, 28, [654, 552, 553, 69, 554])]),
  (4, 2, 66, 1, ⟨"PumpSpells$Ship", "pass", "(I)V"⟩, "", [(3, 32, [655, 583, 584, 69, 585])]),
  (8, 2, 73, 5, ⟨"java/lang/System", "arraycopy", "(Ljava/lang/Object;ILjava/lang/Object;II)V"⟩, "", [(0, 0, [653, 382, 381, 78])]),
  (7, 3, 3, 0, ⟨"java/lang/Object", "<init>", "()V"⟩, "", [(0, 0, [103, 86, 87])]),
  (8, 3, 50, 5, ⟨"java/lang/System", "arraycopy", "(Ljava/lang/Object;ILjava/lang/Object;II)V"⟩, "", [(0, 0, [475, 382, 381, 78])]),
  (4, 3, 56, 0, ⟨"PumpSpells$Ship", "isSunk", "()Z"⟩, "", [(3, 24, [559, 540, 541, 69, 542])]),
  (4, 3, 60, 0, ⟨"PumpSpells$Ship", "isTimeUp", "()Z"⟩, "", [(3, 25, [560, 561, 562, 69, 563])]),
  (4, 3, 63, 1, ⟨"PumpSpells$Ship", "has", "(I)Z"⟩, "", [(3, 23, [568, 481, 482, 69, 483])]),
  (4, 3, 67, 0, ⟨"PumpSpells$Ship", "isOver", "()Z"⟩, "", [(3, 26, [555, 556, 557, 69, 558])]),
  (4, 3, 70, 1, ⟨"PumpSpells$Ship", "allows", "(I)Z"⟩, "", [(3, 27, [564, 565, 566, 69, 567])]),
  (4, 3, 73, 1, ⟨"PumpSpells$Ship", "canNow", "(I)Z"⟩, "", [(3, 28, [551, 552, 553, 69, 554])]),
  (1, 3, 79, 2, ⟨"PumpSpells", "entry", "([II)I"⟩, "PumpSpells", [(0, 106, [494, 495, 67, 496])]),
  (4, 3, 92, 0, ⟨"PumpSpells$Ship", "wouldLeak", "()I"⟩, "", [(3, 31, [586, 535, 536, 69, 537])]),
  (4, 3, 96, 2, ⟨"PumpSpells$Ship", "wouldPump", "(II)I"⟩, "", [(3, 30, [587, 489, 490, 69, 491])]),
  (4, 3, 99, 1, ⟨"PumpSpells$Ship", "tire", "(I)V"⟩, "", [(3, 33, [588, 590, 9, 69, 591])]),
  (1, 3, 106, 2, ⟨"PumpSpells", "strengthBehind", "(II)I"⟩, "PumpSpells", [(0, 115, [592, 500, 67, 501])]),
  (4, 3, 109, 1, ⟨"PumpSpells$Ship", "pass", "(I)V"⟩, "", [(3, 32, [633, 583, 584, 69, 585])]),
  (4, 3, 112, 1, ⟨"PumpSpells$Ship", "passOrRest", "(I)V"⟩, "", [(3, 34, [685, 686, 687, 69, 688])]),
  (1, 3, 126, 2, ⟨"PumpSpells", "isOf", "(II)Z"⟩, "PumpSpells", [(0, 105, [516, 510, 67, 511])]),
  (7, 8, 3, 0, ⟨"java/lang/Object", "<init>", "()V"⟩, "", [(0, 0, [239, 86, 87])]),
  (5, 8, 15, 0, ⟨"PumpSpells$Strip", "isMissing", "()Z"⟩, "", [(1, 45, [348, 350, 351, 349, 72, 353]), (4, 45, [348, 350, 352, 349, 72, 353])]),
  (5, 8, 19, 1, ⟨"PumpSpells$Strip", "has", "(I)Z"⟩, "", [(1, 46, [354, 356, 357, 355, 72, 359]), (4, 46, [354, 356, 358, 355, 72, 359])]),
  (6, 8, 25, 1, ⟨"PumpSpells$Strip", "valueAt", "(I)I"⟩, "", [(1, 9, [862, 864, 865, 866, 73, 867, 863]), (4, 50, [862, 864, 871, 434, 74, 436, 863])]),
  (3, 4, 3, 0, ⟨"PumpSpells$Strip", "<init>", "()V"⟩, "PumpSpells", [(0, 44, [260, 237, 72, 238])]),
  (5, 4, 15, 1, ⟨"PumpSpells$Text", "has", "(I)Z"⟩, "", [(4, 46, [437, 438, 440, 355, 72, 359])]),
  (0, 4, 32, 4, ⟨"java/util/Arrays", "fill", "([BIIB)V"⟩, "", [(0, 236, [404, 405, 77, 406])]),
  (7, 5, 3, 0, ⟨"java/lang/Object", "<init>", "()V"⟩, "", [(0, 0, [97, 86, 87])]),
  (3, 5, 11, 0, ⟨"PumpSpells$Ship", "<init>", "()V"⟩, "PumpSpells", [(0, 19, [100, 101, 69, 102])]),
  (4, 5, 26, 1, ⟨"PumpSpells$Ship", "follow", "(LPumpSpells$Ship;)V"⟩, "", [(3, 22, [615, 472, 473, 69, 474])]),
  (8, 5, 30, 5, ⟨"java/lang/System", "arraycopy", "(Ljava/lang/Object;ILjava/lang/Object;II)V"⟩, "", [(0, 0, [581, 382, 381, 78])]),
  (4, 5, 58, 1, ⟨"PumpSpells$Ship", "pass", "(I)V"⟩, "", [(3, 32, [582, 583, 584, 69, 585])]),
  (4, 5, 62, 0, ⟨"PumpSpells$Ship", "limitStrengths", "()V"⟩, "", [(3, 40, [603, 522, 523, 69, 524])]),
  (7, 6, 1, 0, ⟨"java/lang/Object", "<init>", "()V"⟩, "", [(0, 0, [85, 86, 87])]),
  (3, 6, 23, 0, ⟨"PumpSpells$Voyage", "<init>", "()V"⟩, "PumpSpells", [(0, 52, [94, 95, 68, 96])]),
  (3, 6, 39, 0, ⟨"PumpSpells$Ship", "<init>", "()V"⟩, "PumpSpells", [(0, 19, [177, 101, 69, 102])]),
  (3, 6, 45, 0, ⟨"PumpSpells$Reader", "<init>", "()V"⟩, "PumpSpells", [(0, 0, [180, 181, 70, 182])]),
  (2, 6, 52, 0, ⟨"PumpSpells$Search", "<init>", "()V"⟩, "", [(0, 15, [199, 200, 71, 201])]),
  (3, 6, 78, 0, ⟨"PumpSpells$Row", "<init>", "()V"⟩, "PumpSpells", [(0, 8, [233, 234, 73, 235])]),
  (3, 6, 79, 0, ⟨"PumpSpells$Text", "<init>", "()V"⟩, "PumpSpells", [(0, 49, [257, 258, 74, 259])]),
  (0, 6, 80, 1, ⟨"PumpSpells", "isRow", "(I)Z"⟩, "", [(0, 100, [315, 316, 67, 317])]),
  (4, 6, 84, 1, ⟨"PumpSpells", "find", "(I)I"⟩, "", [(6, 107, [318, 320, 0, 67, 321])]),
  (4, 6, 88, 1, ⟨"PumpSpells$Row", "renew", "(I)V"⟩, "", [(1, 11, [322, 323, 324, 73, 325])]),
  (5, 6, 92, 1, ⟨"PumpSpells$Row", "findingAt", "(I)I"⟩, "", [(1, 47, [342, 343, 345, 346, 72, 347])]),
  (5, 6, 98, 0, ⟨"PumpSpells$Row", "isMissing", "()Z"⟩, "", [(1, 45, [368, 369, 371, 349, 72, 353])]),
  (4, 6, 105, 2, ⟨"PumpSpells$Row", "hasRun", "(II)Z"⟩, "", [(1, 10, [376, 377, 378, 73, 379])]),
  (8, 6, 109, 5, ⟨"java/lang/System", "arraycopy", "(Ljava/lang/Object;ILjava/lang/Object;II)V"⟩, "", [(0, 0, [380, 382, 381, 78])]),
  (4, 6, 115, 0, ⟨"PumpSpells$Row", "sum", "()J"⟩, "", [(1, 13, [387, 388, 389, 73, 390])]),
  (0, 6, 119, 1, ⟨"PumpSpells", "isText", "(I)Z"⟩, "", [(0, 101, [395, 396, 67, 397])]),
  (4, 6, 122, 1, ⟨"PumpSpells$Text", "renew", "(I)V"⟩, "", [(4, 51, [398, 399, 400, 74, 401])]),
  (5, 6, 123, 1, ⟨"PumpSpells$Text", "findingAt", "(I)I"⟩, "", [(4, 47, [411, 412, 413, 346, 72, 347])]),
  (5, 6, 128, 0, ⟨"PumpSpells$Text", "isMissing", "()Z"⟩, "", [(4, 45, [418, 419, 420, 349, 72, 353])]),
  (4, 6, 129, 1, ⟨"PumpSpells$Reader", "findFault", "(LPumpSpells$Text;)I"⟩, "", [(0, 1, [421, 422, 423, 70, 424])]),
  (4, 6, 136, 1, ⟨"PumpSpells$Ship", "follow", "(LPumpSpells$Ship;)V"⟩, "", [(3, 22, [471, 472, 473, 69, 474])]),
  (4, 6, 147, 1, ⟨"PumpSpells$Ship", "has", "(I)Z"⟩, "", [(3, 23, [480, 481, 482, 69, 483])]),
  (4, 6, 150, 2, ⟨"PumpSpells", "ofGang", "(II)I"⟩, "", [(6, 108, [484, 486, 7, 67, 487])]),
  (0, 6, 157, 2, ⟨"PumpSpells", "isOf", "(II)Z"⟩, "", [(0, 105, [509, 510, 67, 511])]),
  (4, 6, 168, 2, ⟨"PumpSpells$Ship", "wouldPump", "(II)I"⟩, "", [(3, 30, [488, 489, 490, 69, 491])]),
  (4, 6, 171, 0, ⟨"PumpSpells$Ship", "countSingers", "()I"⟩, "", [(3, 43, [512, 513, 514, 69, 515])]),
  (4, 6, 178, 0, ⟨"PumpSpells$Ship", "limitStrengths", "()V"⟩, "", [(3, 40, [521, 522, 523, 69, 524])]),
  (4, 6, 181, 1, ⟨"PumpSpells", "ofShip", "(I)I"⟩, "", [(6, 109, [530, 532, 8, 67, 533])]),
  (4, 6, 184, 0, ⟨"PumpSpells$Ship", "setOfActs", "()I"⟩, "", [(3, 29, [547, 548, 549, 69, 550])]),
  (0, 6, 187, 1, ⟨"PumpSpells", "isAct", "(I)Z"⟩, "", [(0, 103, [573, 574, 67, 575])]),
  (4, 6, 190, 1, ⟨"PumpSpells$Ship", "canNow", "(I)Z"⟩, "", [(3, 28, [576, 552, 553, 69, 554])]),
  (4, 6, 193, 1, ⟨"PumpSpells$Voyage", "pass", "(I)V"⟩, "", [(5, 54, [577, 578, 579, 68, 580])]),
  (4, 6, 202, 1, ⟨"PumpSpells$Voyage", "goBack", "(I)V"⟩, "", [(5, 55, [599, 600, 601, 68, 602])]),
  (0, 6, 205, 1, ⟨"PumpSpells", "isKept", "(I)Z"⟩, "", [(0, 102, [608, 609, 67, 610])]),
  (4, 6, 208, 1, ⟨"PumpSpells$Voyage", "follow", "(LPumpSpells$Voyage;)V"⟩, "", [(5, 53, [611, 612, 613, 68, 614])]),
  (4, 6, 211, 0, ⟨"PumpSpells$Row", "isOfActs", "()Z"⟩, "", [(1, 14, [624, 625, 626, 73, 627])]),
  (4, 6, 214, 1, ⟨"PumpSpells$Ship", "passPlan", "(LPumpSpells$Row;)I"⟩, "", [(3, 38, [629, 630, 631, 69, 632])]),
  (4, 6, 218, 2, ⟨"PumpSpells$Search", "start", "(LPumpSpells$Ship;I)V"⟩, "", [(2, 16, [638, 639, 640, 71, 641])]),
  (4, 6, 228, 2, ⟨"PumpSpells$Row", "take", "([II)V"⟩, "", [(1, 12, [656, 657, 658, 73, 659])]),
  (4, 6, 235, 2, ⟨"PumpSpells", "tellChance", "(JJ)V"⟩, "", [(6, 123, [666, 668, 11, 67, 669])]),
  (4, 6, 242, 2, ⟨"PumpSpells$Ship", "passRota", "([II)V"⟩, "", [(3, 37, [681, 682, 683, 69, 684])]),
  (4, 6, 245, 0, ⟨"PumpSpells$Ship", "isSunk", "()Z"⟩, "", [(3, 24, [539, 540, 541, 69, 542])]),
  (0, 6, 248, 1, ⟨"PumpSpells", "tenTo", "(I)I"⟩, "", [(0, 117, [693, 694, 67, 695])]),
  (4, 6, 251, 2, ⟨"PumpSpells", "spellOut", "(II)V"⟩, "", [(6, 119, [696, 698, 12, 67, 699])]),
  (4, 6, 255, 2, ⟨"PumpSpells$Ship", "passAgain", "(II)V"⟩, "", [(3, 36, [705, 706, 707, 69, 708])]),
  (4, 6, 258, 2, ⟨"PumpSpells", "waterBehind", "(II)I"⟩, "", [(6, 116, [713, 715, 13, 67, 716])]),
  (4, 6, 271, 1, ⟨"PumpSpells", "findingOfPairs", "(LPumpSpells$Row;)I"⟩, "", [(6, 120, [735, 737, 14, 67, 738])]),
  (4, 6, 274, 3, ⟨"PumpSpells", "isSoIfOf", "(IILPumpSpells$Row;)Z"⟩, "", [(6, 121, [742, 744, 15, 67, 745])]),
  (4, 6, 278, 1, ⟨"PumpSpells$Ship", "isSo", "(LPumpSpells$Row;)Z"⟩, "", [(3, 39, [746, 747, 748, 69, 749])]),
  (0, 6, 285, 3, ⟨"PumpSpells", "isChance", "(III)Z"⟩, "", [(0, 104, [762, 763, 67, 764])]),
  (4, 6, 289, 4, ⟨"PumpSpells", "weigh", "(IIIZ)J"⟩, "", [(6, 122, [765, 767, 16, 67, 768])]),
  (0, 6, 293, 1, ⟨"PumpSpells", "twelveTo", "(I)J"⟩, "", [(0, 118, [773, 774, 67, 775])]),
  (4, 6, 299, 0, ⟨"PumpSpells$Ship", "isOver", "()Z"⟩, "", [(3, 26, [786, 556, 557, 69, 558])]),
  (0, 6, 304, 2, ⟨"PumpSpells", "drawAct", "(IJ)I"⟩, "", [(0, 125, [788, 789, 67, 790])]),
  (4, 6, 308, 1, ⟨"PumpSpells", "tally", "(I)I"⟩, "", [(6, 110, [813, 815, 17, 67, 816])]),
  (4, 6, 315, 1, ⟨"PumpSpells", "digestShip", "(J)J"⟩, "", [(6, 114, [851, 853, 21, 67, 854])]),
  (5, 6, 319, 1, ⟨"PumpSpells$Row", "digestOn", "(J)J"⟩, "", [(1, 48, [855, 856, 858, 859, 72, 860])]),
  (5, 6, 322, 1, ⟨"PumpSpells$Text", "digestOn", "(J)J"⟩, "", [(4, 48, [872, 873, 874, 859, 72, 860])]),
  (0, 6, 323, 2, ⟨"PumpSpells", "strengthBehind", "(II)I"⟩, "", [(0, 115, [499, 500, 67, 501])]),
  (4, 6, 326, 0, ⟨"PumpSpells$Ship", "wouldLeak", "()I"⟩, "", [(3, 31, [534, 535, 536, 69, 537])]),
  (4, 6, 338, 0, ⟨"PumpSpells$Ship", "sumStrengths", "()I"⟩, "", [(3, 41, [817, 818, 819, 69, 820])]),
  (4, 6, 341, 1, ⟨"PumpSpells$Ship", "countOf", "(I)I"⟩, "", [(3, 42, [821, 822, 823, 69, 824])]),
  (4, 6, 344, 0, ⟨"PumpSpells", "countRows", "()I"⟩, "", [(6, 111, [825, 827, 18, 67, 828])]),
  (4, 6, 347, 0, ⟨"PumpSpells", "countTexts", "()I"⟩, "", [(6, 112, [829, 831, 19, 67, 832])]),
  (4, 6, 350, 0, ⟨"PumpSpells", "countKept", "()I"⟩, "", [(6, 113, [833, 835, 20, 67, 836])]),
  (0, 6, 356, 2, ⟨"PumpSpells", "entry", "([II)I"⟩, "", [(0, 106, [503, 495, 67, 496])]),
  (4, 6, 365, 0, ⟨"PumpSpells$Ship", "isTimeUp", "()Z"⟩, "", [(3, 25, [739, 561, 562, 69, 563])]),
  (4, 6, 368, 1, ⟨"PumpSpells$Ship", "allows", "(I)Z"⟩, "", [(3, 27, [740, 565, 566, 69, 567])]),
  (4, 6, 371, 1, ⟨"PumpSpells$Ship", "pass", "(I)V"⟩, "", [(3, 32, [741, 583, 584, 69, 585])]),
  (4, 6, 372, 2, ⟨"PumpSpells$Ship", "passByChance", "(IZ)V"⟩, "", [(3, 35, [769, 770, 771, 69, 772])]),
  (0, 6, 376, 2, ⟨"PumpSpells", "commonDivisor", "(JJ)J"⟩, "", [(0, 124, [670, 671, 67, 672])]),
  (0, 6, 380, 1, ⟨"java/lang/Integer", "bitCount", "(I)I"⟩, "", [(0, 231, [791, 792, 79, 793])]),
  (7, 7, 1, 0, ⟨"java/lang/Object", "<init>", "()V"⟩, "", [(0, 0, [880, 86, 87])]),
  (0, 7, 47, 3, ⟨"PumpSpellsModel", "in", "(JJJ)Z"⟩, "", [(0, 127, [959, 960, 75, 961])]),
  (0, 7, 53, 1, ⟨"PumpSpellsModel", "isRow", "(I)Z"⟩, "", [(0, 131, [955, 956, 75, 957])]),
  (4, 7, 57, 1, ⟨"PumpSpellsModel", "find", "(I)I"⟩, "", [(7, 129, [962, 964, 22, 75, 965])]),
  (4, 7, 61, 2, ⟨"PumpSpellsModel", "makeRow", "(II)V"⟩, "", [(7, 134, [966, 968, 23, 75, 969])]),
  (4, 7, 65, 2, ⟨"PumpSpellsModel", "refused", "(II)I"⟩, "", [(7, 135, [974, 976, 24, 75, 977])]),
  (4, 7, 69, 1, ⟨"PumpSpellsModel", "told", "(I)I"⟩, "", [(7, 130, [978, 980, 25, 75, 981])]),
  (4, 7, 72, 3, ⟨"PumpSpellsModel", "isSpan", "(III)Z"⟩, "", [(7, 139, [994, 996, 26, 75, 997])]),
  (0, 7, 76, 1, ⟨"PumpSpellsModel", "isText", "(I)Z"⟩, "", [(0, 132, [1006, 1007, 75, 1008])]),
  (4, 7, 88, 0, ⟨"PumpSpellsModel", "here", "()I"⟩, "", [(7, 144, [1030, 1032, 30, 75, 1033])]),
  (4, 7, 92, 0, ⟨"PumpSpellsModel", "skip", "()V"⟩, "", [(7, 145, [1026, 1028, 29, 75, 1029])]),
  (4, 7, 95, 2, ⟨"PumpSpellsModel", "figure", "(II)I"⟩, "", [(7, 146, [1034, 1036, 31, 75, 1037])]),
  (0, 7, 110, 1, ⟨"PumpSpellsModel", "kindOfLetter", "(I)I"⟩, "", [(0, 147, [1042, 1043, 75, 1044])]),
  (4, 7, 116, 0, ⟨"PumpSpellsModel", "readsShip", "()Z"⟩, "", [(7, 148, [1022, 1024, 28, 75, 1025])]),
  (4, 7, 120, 0, ⟨"PumpSpellsModel", "readsGang", "()Z"⟩, "", [(7, 149, [1038, 1040, 32, 75, 1041])]),
  (4, 7, 123, 1, ⟨"PumpSpellsModel", "faultOf", "(I)I"⟩, "", [(7, 150, [1018, 1020, 27, 75, 1021])]),
  (0, 7, 135, 1, ⟨"PumpSpellsModel", "isRacing", "(I)Z"⟩, "", [(0, 154, [1069, 1070, 75, 1071])]),
  (0, 7, 138, 1, ⟨"PumpSpellsModel", "isSung", "(I)Z"⟩, "", [(0, 155, [1075, 1076, 75, 1077])]),
  (0, 7, 141, 1, ⟨"PumpSpellsModel", "needs", "(I)I"⟩, "", [(0, 156, [1072, 1073, 75, 1074])]),
  (0, 7, 144, 3, ⟨"PumpSpellsModel", "pumps", "(III)I"⟩, "", [(0, 157, [1066, 1067, 75, 1068])]),
  (4, 7, 148, 1, ⟨"PumpSpellsModel", "pumpsNow", "(I)I"⟩, "", [(7, 159, [1062, 1064, 35, 75, 1065])]),
  (0, 7, 151, 2, ⟨"PumpSpellsModel", "behind", "(II)I"⟩, "", [(0, 158, [1078, 1079, 75, 1080])]),
  (4, 7, 154, 1, ⟨"PumpSpellsModel", "isGang", "(I)Z"⟩, "", [(7, 153, [1053, 1055, 33, 75, 1056])]),
  (4, 7, 159, 2, ⟨"PumpSpellsModel", "toldOf", "(II)I"⟩, "", [(7, 160, [1058, 1060, 34, 75, 1061])]),
  (4, 7, 162, 2, ⟨"PumpSpellsModel", "isOf", "(II)Z"⟩, "", [(7, 162, [1085, 1087, 36, 75, 1088])]),
  (4, 7, 166, 0, ⟨"PumpSpellsModel", "singing", "()I"⟩, "", [(7, 163, [1089, 1091, 37, 75, 1092])]),
  (4, 7, 171, 1, ⟨"PumpSpellsModel", "cut", "(I)V"⟩, "", [(7, 166, [1098, 1100, 38, 75, 1101])]),
  (4, 7, 175, 1, ⟨"PumpSpellsModel", "isSunk", "(I)Z"⟩, "", [(7, 168, [1115, 1117, 41, 75, 1118])]),
  (4, 7, 178, 1, ⟨"PumpSpellsModel", "leaking", "(I)I"⟩, "", [(7, 167, [1111, 1113, 40, 75, 1114])]),
  (4, 7, 183, 1, ⟨"PumpSpellsModel", "tellOf", "(I)I"⟩, "", [(7, 173, [1107, 1109, 39, 75, 1110])]),
  (4, 7, 186, 1, ⟨"PumpSpellsModel", "isOver", "(I)Z"⟩, "", [(7, 169, [1127, 1129, 43, 75, 1130])]),
  (4, 7, 189, 2, ⟨"PumpSpellsModel", "may", "(II)Z"⟩, "", [(7, 170, [1131, 1133, 44, 75, 1134])]),
  (4, 7, 192, 0, ⟨"PumpSpellsModel", "canNow", "()I"⟩, "", [(7, 175, [1123, 1125, 42, 75, 1126])]),
  (4, 7, 195, 2, ⟨"PumpSpellsModel", "pass", "(II)V"⟩, "", [(7, 171, [1149, 1151, 46, 75, 1152])]),
  (0, 7, 198, 1, ⟨"PumpSpellsModel", "isAct", "(I)Z"⟩, "", [(0, 172, [1139, 1140, 75, 1141])]),
  (0, 7, 201, 2, ⟨"PumpSpellsModel", "has", "(II)Z"⟩, "", [(0, 128, [1142, 1143, 75, 1144])]),
  (4, 7, 204, 1, ⟨"PumpSpellsModel", "doAct", "(I)V"⟩, "", [(7, 177, [1145, 1147, 45, 75, 1148])]),
  (4, 7, 209, 3, ⟨"PumpSpellsModel", "copyShip", "(III)V"⟩, "", [(7, 180, [1162, 1164, 47, 75, 1165])]),
  (4, 7, 213, 1, ⟨"PumpSpellsModel", "areActs", "(I)Z"⟩, "", [(7, 184, [1174, 1176, 48, 75, 1177])]),
  (4, 7, 216, 0, ⟨"PumpSpellsModel", "layTried", "()V"⟩, "", [(7, 183, [1178, 1180, 49, 75, 1181])]),
  (0, 7, 219, 1, ⟨"PumpSpellsModel", "power", "(I)I"⟩, "", [(0, 186, [1186, 1187, 75, 1188])]),
  (0, 7, 222, 3, ⟨"PumpSpellsModel", "actOf", "(III)I"⟩, "", [(0, 187, [1193, 1194, 75, 1195])]),
  (4, 7, 225, 2, ⟨"PumpSpellsModel", "keeps", "(II)Z"⟩, "", [(7, 188, [1189, 1191, 50, 75, 1192])]),
  (4, 7, 228, 3, ⟨"PumpSpellsModel", "toRow", "(III)V"⟩, "", [(7, 189, [1196, 1198, 51, 75, 1199])]),
  (4, 7, 234, 1, ⟨"PumpSpellsModel", "turn", "(I)V"⟩, "", [(7, 193, [1212, 1214, 52, 75, 1215])]),
  (4, 7, 237, 2, ⟨"PumpSpellsModel", "lands", "(II)Z"⟩, "", [(7, 195, [1220, 1222, 53, 75, 1223])]),
  (4, 7, 242, 2, ⟨"PumpSpellsModel", "waterBy", "(II)I"⟩, "", [(7, 198, [1233, 1235, 54, 75, 1236])]),
  (4, 7, 247, 1, ⟨"PumpSpellsModel", "canAll", "(I)Z"⟩, "", [(7, 203, [1258, 1260, 56, 75, 1261])]),
  (4, 7, 250, 1, ⟨"PumpSpellsModel", "isSo", "(I)Z"⟩, "", [(7, 204, [1266, 1268, 58, 75, 1269])]),
  (4, 7, 253, 1, ⟨"PumpSpellsModel", "noPairs", "(I)I"⟩, "", [(7, 205, [1254, 1256, 55, 75, 1257])]),
  (4, 7, 256, 3, ⟨"PumpSpellsModel", "isSoAs", "(III)Z"⟩, "", [(7, 206, [1262, 1264, 57, 75, 1265])]),
  (4, 7, 261, 3, ⟨"PumpSpellsModel", "tryChokes", "(III)V"⟩, "", [(7, 211, [1290, 1292, 60, 75, 1293])]),
  (0, 7, 264, 3, ⟨"PumpSpellsModel", "waysOf", "(III)J"⟩, "", [(0, 212, [1294, 1295, 75, 1296])]),
  (4, 7, 268, 2, ⟨"PumpSpellsModel", "tellParts", "(JJ)I"⟩, "", [(7, 210, [1297, 1299, 61, 75, 1300])]),
  (0, 7, 272, 3, ⟨"PumpSpellsModel", "isChance", "(III)Z"⟩, "", [(0, 213, [1282, 1283, 75, 1284])]),
  (4, 7, 275, 4, ⟨"PumpSpellsModel", "tellChances", "(IIIZ)I"⟩, "", [(7, 214, [1286, 1288, 59, 75, 1289])]),
  (0, 7, 285, 1, ⟨"PumpSpellsModel", "many", "(I)I"⟩, "", [(0, 218, [1312, 1313, 75, 1314])]),
  (0, 7, 288, 2, ⟨"PumpSpellsModel", "nthOf", "(II)I"⟩, "", [(0, 217, [1315, 1316, 75, 1317])]),
  (4, 7, 291, 0, ⟨"PumpSpellsModel", "strengthOfAll", "()I"⟩, "", [(7, 223, [1338, 1340, 63, 75, 1341])]),
  (4, 7, 294, 1, ⟨"PumpSpellsModel", "kindMany", "(I)I"⟩, "", [(7, 224, [1342, 1344, 64, 75, 1345])]),
  (4, 7, 297, 1, ⟨"PumpSpellsModel", "thereOf", "(I)I"⟩, "", [(7, 225, [1346, 1348, 65, 75, 1349])]),
  (4, 7, 300, 1, ⟨"PumpSpellsModel", "countOf", "(I)I"⟩, "", [(7, 226, [1334, 1336, 62, 75, 1337])]),
  (0, 12, 13, 3, ⟨"java/util/Arrays", "rangeCheck", "(III)V"⟩, "", [(0, 234, [335, 336, 77, 337])]),
  (2, 9, 9, 0, ⟨"PumpSpells", "<init>", "()V"⟩, "", [(0, 56, [82, 83, 67, 84])]),
  (2, 9, 12, 0, ⟨"PumpSpellsModel", "<init>", "()V"⟩, "", [(0, 126, [877, 878, 75, 879])]),
  (4, 9, 13, 2, ⟨"PumpSpells", "row", "(II)I"⟩, "", [(6, 57, [311, 312, 313, 67, 314])]),
  (4, 9, 17, 2, ⟨"PumpSpellsModel", "row", "(II)I"⟩, "", [(7, 133, [951, 952, 953, 75, 954])]),
  (4, 9, 18, 3, ⟨"PumpSpells", "lay", "(III)I"⟩, "", [(6, 58, [338, 339, 340, 67, 341])]),
  (4, 9, 22, 3, ⟨"PumpSpellsModel", "lay", "(III)I"⟩, "", [(7, 136, [970, 971, 972, 75, 973])]),
  (4, 9, 23, 2, ⟨"PumpSpells", "at", "(II)I"⟩, "", [(6, 59, [360, 361, 362, 67, 363])]),
  (4, 9, 26, 2, ⟨"PumpSpellsModel", "at", "(II)I"⟩, "", [(7, 137, [982, 983, 984, 75, 985])]),
  (4, 9, 27, 1, ⟨"PumpSpells", "tear", "(I)I"⟩, "", [(6, 60, [364, 365, 366, 67, 367])]),
  (4, 9, 31, 1, ⟨"PumpSpellsModel", "tear", "(I)I"⟩, "", [(7, 138, [986, 987, 988, 75, 989])]),
  (4, 9, 32, 5, ⟨"PumpSpells", "copy", "(IIIII)I"⟩, "", [(6, 61, [372, 373, 374, 67, 375])]),
  (4, 9, 36, 5, ⟨"PumpSpellsModel", "copy", "(IIIII)I"⟩, "", [(7, 140, [990, 991, 992, 75, 993])]),
  (4, 9, 37, 1, ⟨"PumpSpells", "mean", "(I)I"⟩, "", [(6, 62, [383, 384, 385, 67, 386])]),
  (4, 9, 40, 1, ⟨"PumpSpellsModel", "mean", "(I)I"⟩, "", [(7, 141, [998, 999, 1000, 75, 1001])]),
  (4, 9, 41, 2, ⟨"PumpSpells", "text", "(II)I"⟩, "", [(6, 63, [391, 392, 393, 67, 394])]),
  (4, 9, 44, 2, ⟨"PumpSpellsModel", "text", "(II)I"⟩, "", [(7, 142, [1002, 1003, 1004, 75, 1005])]),
  (4, 9, 45, 3, ⟨"PumpSpells", "put", "(III)I"⟩, "", [(6, 64, [407, 408, 409, 67, 410])]),
  (4, 9, 48, 3, ⟨"PumpSpellsModel", "put", "(III)I"⟩, "", [(7, 143, [1010, 1011, 1012, 75, 1013])]),
  (4, 9, 49, 1, ⟨"PumpSpells", "fault", "(I)I"⟩, "", [(6, 65, [414, 415, 416, 67, 417])]),
  (4, 9, 52, 1, ⟨"PumpSpellsModel", "fault", "(I)I"⟩, "", [(7, 151, [1014, 1015, 1016, 75, 1017])]),
  (4, 9, 53, 1, ⟨"PumpSpells", "ship", "(I)I"⟩, "", [(6, 66, [467, 468, 469, 67, 470])]),
  (4, 9, 56, 1, ⟨"PumpSpellsModel", "ship", "(I)I"⟩, "", [(7, 152, [1045, 1046, 1047, 75, 1048])]),
  (4, 9, 57, 2, ⟨"PumpSpells", "gang", "(II)I"⟩, "", [(6, 67, [476, 477, 478, 67, 479])]),
  (4, 9, 60, 2, ⟨"PumpSpellsModel", "gang", "(II)I"⟩, "", [(7, 161, [1049, 1050, 1051, 75, 1052])]),
  (4, 9, 61, 2, ⟨"PumpSpells", "mark", "(II)I"⟩, "", [(6, 68, [505, 506, 507, 67, 508])]),
  (4, 9, 64, 2, ⟨"PumpSpellsModel", "mark", "(II)I"⟩, "", [(7, 164, [1081, 1082, 1083, 75, 1084])]),
  (4, 9, 65, 2, ⟨"PumpSpells", "force", "(II)I"⟩, "", [(6, 69, [517, 518, 519, 67, 520])]),
  (4, 9, 68, 2, ⟨"PumpSpellsModel", "force", "(II)I"⟩, "", [(7, 165, [1093, 1094, 1095, 75, 1096])]),
  (4, 9, 69, 1, ⟨"PumpSpells", "tell", "(I)I"⟩, "", [(6, 70, [526, 527, 528, 67, 529])]),
  (4, 9, 72, 1, ⟨"PumpSpellsModel", "tell", "(I)I"⟩, "", [(7, 174, [1102, 1103, 1104, 75, 1105])]),
  (4, 9, 73, 0, ⟨"PumpSpells", "can", "()I"⟩, "", [(6, 71, [543, 544, 545, 67, 546])]),
  (4, 9, 77, 0, ⟨"PumpSpellsModel", "can", "()I"⟩, "", [(7, 176, [1119, 1120, 1121, 75, 1122])]),
  (4, 9, 78, 1, ⟨"PumpSpells", "act", "(I)I"⟩, "", [(6, 72, [569, 570, 571, 67, 572])]),
  (4, 9, 81, 1, ⟨"PumpSpellsModel", "act", "(I)I"⟩, "", [(7, 178, [1135, 1136, 1137, 75, 1138])]),
  (4, 9, 82, 1, ⟨"PumpSpells", "undo", "(I)I"⟩, "", [(6, 73, [595, 596, 597, 67, 598])]),
  (4, 9, 85, 1, ⟨"PumpSpellsModel", "undo", "(I)I"⟩, "", [(7, 179, [1153, 1154, 1155, 75, 1156])]),
  (4, 9, 86, 1, ⟨"PumpSpells", "keep", "(I)I"⟩, "", [(6, 74, [604, 605, 606, 67, 607])]),
  (4, 9, 89, 1, ⟨"PumpSpellsModel", "keep", "(I)I"⟩, "", [(7, 181, [1157, 1158, 1159, 75, 1160])]),
  (4, 9, 90, 1, ⟨"PumpSpells", "on", "(I)I"⟩, "", [(6, 75, [616, 617, 618, 67, 619])]),
  (4, 9, 93, 1, ⟨"PumpSpellsModel", "on", "(I)I"⟩, "", [(7, 182, [1166, 1167, 1168, 75, 1169])]),
  (4, 9, 94, 1, ⟨"PumpSpells", "run", "(I)I"⟩, "", [(6, 76, [620, 621, 622, 67, 623])]),
  (4, 9, 97, 1, ⟨"PumpSpellsModel", "run", "(I)I"⟩, "", [(7, 185, [1170, 1171, 1172, 75, 1173])]),
  (4, 9, 98, 2, ⟨"PumpSpells", "best", "(II)I"⟩, "", [(6, 77, [634, 635, 636, 67, 637])]),
  (4, 9, 101, 2, ⟨"PumpSpellsModel", "best", "(II)I"⟩, "", [(7, 190, [1182, 1183, 1184, 75, 1185])]),
  (4, 9, 102, 1, ⟨"PumpSpells", "afloat", "(I)I"⟩, "", [(6, 78, [662, 663, 664, 67, 665])]),
  (4, 9, 105, 1, ⟨"PumpSpellsModel", "afloat", "(I)I"⟩, "", [(7, 191, [1200, 1201, 1202, 75, 1203])]),
  (4, 9, 106, 1, ⟨"PumpSpells", "firsts", "(I)I"⟩, "", [(6, 79, [673, 674, 675, 67, 676])]),
  (4, 9, 109, 1, ⟨"PumpSpellsModel", "firsts", "(I)I"⟩, "", [(7, 192, [1204, 1205, 1206, 75, 1207])]),
  (4, 9, 110, 1, ⟨"PumpSpells", "rota", "(I)I"⟩, "", [(6, 80, [677, 678, 679, 67, 680])]),
  (4, 9, 113, 1, ⟨"PumpSpellsModel", "rota", "(I)I"⟩, "", [(7, 194, [1208, 1209, 1210, 75, 1211])]),
  (4, 9, 114, 2, ⟨"PumpSpells", "watch", "(II)I"⟩, "", [(6, 81, [689, 690, 691, 67, 692])]),
  (4, 9, 117, 2, ⟨"PumpSpellsModel", "watch", "(II)I"⟩, "", [(7, 196, [1216, 1217, 1218, 75, 1219])]),
  (4, 9, 118, 1, ⟨"PumpSpells", "lasts", "(I)I"⟩, "", [(6, 82, [701, 702, 703, 67, 704])]),
  (4, 9, 121, 1, ⟨"PumpSpellsModel", "lasts", "(I)I"⟩, "", [(7, 197, [1224, 1225, 1226, 75, 1227])]),
  (4, 9, 122, 3, ⟨"PumpSpells", "inches", "(III)I"⟩, "", [(6, 83, [709, 710, 711, 67, 712])]),
  (4, 9, 125, 3, ⟨"PumpSpellsModel", "inches", "(III)I"⟩, "", [(7, 199, [1228, 1229, 1230, 75, 1231])]),
  (4, 9, 126, 1, ⟨"PumpSpells", "lighten", "(I)I"⟩, "", [(6, 84, [717, 718, 719, 67, 720])]),
  (4, 9, 129, 1, ⟨"PumpSpellsModel", "lighten", "(I)I"⟩, "", [(7, 200, [1237, 1238, 1239, 75, 1240])]),
  (4, 9, 130, 1, ⟨"PumpSpells", "rest", "(I)I"⟩, "", [(6, 85, [721, 722, 723, 67, 724])]),
  (4, 9, 133, 1, ⟨"PumpSpellsModel", "rest", "(I)I"⟩, "", [(7, 201, [1241, 1242, 1243, 75, 1244])]),
  (4, 9, 134, 1, ⟨"PumpSpells", "gains", "(I)I"⟩, "", [(6, 86, [725, 726, 727, 67, 728])]),
  (4, 9, 137, 1, ⟨"PumpSpellsModel", "gains", "(I)I"⟩, "", [(7, 202, [1245, 1246, 1247, 75, 1248])]),
  (4, 9, 138, 1, ⟨"PumpSpells", "feigns", "(I)I"⟩, "", [(6, 87, [731, 732, 733, 67, 734])]),
  (4, 9, 141, 1, ⟨"PumpSpellsModel", "feigns", "(I)I"⟩, "", [(7, 207, [1250, 1251, 1252, 75, 1253])]),
  (4, 9, 142, 2, ⟨"PumpSpells", "kinds", "(II)I"⟩, "", [(6, 88, [750, 751, 752, 67, 753])]),
  (4, 9, 145, 2, ⟨"PumpSpellsModel", "kinds", "(II)I"⟩, "", [(7, 208, [1270, 1271, 1272, 75, 1273])]),
  (4, 9, 146, 1, ⟨"PumpSpells", "leaks", "(I)I"⟩, "", [(6, 89, [754, 755, 756, 67, 757])]),
  (4, 9, 149, 1, ⟨"PumpSpellsModel", "leaks", "(I)I"⟩, "", [(7, 209, [1274, 1275, 1276, 75, 1277])]),
  (4, 9, 150, 3, ⟨"PumpSpells", "odds", "(III)I"⟩, "", [(6, 90, [758, 759, 760, 67, 761])]),
  (4, 9, 153, 3, ⟨"PumpSpellsModel", "odds", "(III)I"⟩, "", [(7, 215, [1278, 1279, 1280, 75, 1281])]),
  (4, 9, 154, 3, ⟨"PumpSpells", "mid", "(III)I"⟩, "", [(6, 91, [777, 778, 779, 67, 780])]),
  (4, 9, 157, 3, ⟨"PumpSpellsModel", "mid", "(III)I"⟩, "", [(7, 216, [1301, 1302, 1303, 75, 1304])]),
  (4, 9, 158, 2, ⟨"PumpSpells", "lots", "(II)I"⟩, "", [(6, 92, [781, 782, 783, 67, 784])]),
  (4, 9, 161, 2, ⟨"PumpSpellsModel", "lots", "(II)I"⟩, "", [(7, 219, [1305, 1306, 1307, 75, 1308])]),
  (4, 9, 162, 0, ⟨"PumpSpells", "asked", "()I"⟩, "", [(6, 93, [797, 798, 799, 67, 800])]),
  (4, 9, 165, 0, ⟨"PumpSpellsModel", "asked", "()I"⟩, "", [(7, 220, [1318, 1319, 1320, 75, 1321])]),
  (4, 9, 166, 0, ⟨"PumpSpells", "upper", "()J"⟩, "", [(6, 94, [801, 802, 803, 67, 804])]),
  (4, 9, 170, 0, ⟨"PumpSpellsModel", "upper", "()J"⟩, "", [(7, 221, [1322, 1323, 1324, 75, 1325])]),
  (4, 9, 171, 0, ⟨"PumpSpells", "lower", "()J"⟩, "", [(6, 95, [805, 806, 807, 67, 808])]),
  (4, 9, 174, 0, ⟨"PumpSpellsModel", "lower", "()J"⟩, "", [(7, 222, [1326, 1327, 1328, 75, 1329])]),
  (4, 9, 175, 1, ⟨"PumpSpells", "count", "(I)I"⟩, "", [(6, 96, [809, 810, 811, 67, 812])]),
  (4, 9, 178, 1, ⟨"PumpSpellsModel", "count", "(I)I"⟩, "", [(7, 227, [1330, 1331, 1332, 75, 1333])]),
  (4, 9, 179, 0, ⟨"PumpSpells", "finding", "()I"⟩, "", [(6, 97, [837, 838, 839, 67, 840])]),
  (4, 9, 182, 0, ⟨"PumpSpellsModel", "finding", "()I"⟩, "", [(7, 228, [1350, 1351, 1352, 75, 1353])]),
  (4, 9, 183, 1, ⟨"PumpSpells", "findings", "(I)I"⟩, "", [(6, 98, [841, 842, 843, 67, 844])]),
  (4, 9, 186, 1, ⟨"PumpSpellsModel", "findings", "(I)I"⟩, "", [(7, 229, [1354, 1355, 1356, 75, 1357])]),
  (4, 9, 187, 0, ⟨"PumpSpells", "digest", "()J"⟩, "", [(6, 99, [845, 846, 847, 67, 848])]),
  (4, 9, 190, 0, ⟨"PumpSpellsModel", "digest", "()J"⟩, "", [(7, 230, [1358, 1359, 1360, 75, 1361])])]
def ps_sw : List (Int × Int × Nat × List Nat) := [(6, 9, 60, [32, 34, 47, 32]),
  (1, 4, 134, [88, 93, 102, 124]),
  (0, 3, 78, [52, 54, 64, 67]),
  (0, 7, 128, [48, 56, 64, 72, 80, 96, 104, 112]),
  (0, 7, 108, [48, 56, 64, 72, 80, 89, 98, 103]),
  (0, 3, 65, [32, 39, 49, 59]),
  (1, 4, 127, [80, 84, 97, 115]),
  (0, 7, 108, [48, 55, 61, 68, 75, 82, 89, 96]),
  (0, 5, 76, [40, 45, 52, 59, 64, 70]),
  (0, 42, 1392, [220, 253, 296, 329, 352, 415, 438, 471, 514, 537, 560, 593, 626, 659, 682, 695, 718, 741, 764, 787, 810, 843, 866, 889, 912, 945, 968, 1011, 1034, 1057, 1080, 1103, 1136, 1159, 1202, 1245, 1278, 1291, 1305, 1319, 1342, 1355, 1378])]
abbrev j_X0_init : Nat := 0
abbrev j_X0_findFault : Nat := 1
abbrev j_X0_skipBlanks : Nat := 2
abbrev j_X0_byteHere : Nat := 3
abbrev j_X0_takesHull : Nat := 4
abbrev j_X0_takeFigure : Nat := 5
abbrev j_X0_takesGang : Nat := 6
abbrev j_X0_kindHere : Nat := 7
abbrev j_X1_init : Nat := 8
abbrev j_X1_valueAt : Nat := 9
abbrev j_X1_hasRun : Nat := 10
abbrev j_X1_renew : Nat := 11
abbrev j_X1_take : Nat := 12
abbrev j_X1_sum : Nat := 13
abbrev j_X1_isOfActs : Nat := 14
abbrev j_X2_init : Nat := 15
abbrev j_X2_start : Nat := 16
abbrev j_X2_explore : Nat := 17
abbrev j_X2_note : Nat := 18
abbrev j_X3_init : Nat := 19
abbrev j_X3_launch : Nat := 20
abbrev j_X3_enlist : Nat := 21
abbrev j_X3_follow : Nat := 22
abbrev j_X3_has : Nat := 23
abbrev j_X3_isSunk : Nat := 24
abbrev j_X3_isTimeUp : Nat := 25
abbrev j_X3_isOver : Nat := 26
abbrev j_X3_allows : Nat := 27
abbrev j_X3_canNow : Nat := 28
abbrev j_X3_setOfActs : Nat := 29
abbrev j_X3_wouldPump : Nat := 30
abbrev j_X3_wouldLeak : Nat := 31
abbrev j_X3_pass : Nat := 32
abbrev j_X3_tire : Nat := 33
abbrev j_X3_passOrRest : Nat := 34
abbrev j_X3_passByChance : Nat := 35
abbrev j_X3_passAgain : Nat := 36
abbrev j_X3_passRota : Nat := 37
abbrev j_X3_passPlan : Nat := 38
abbrev j_X3_isSo : Nat := 39
abbrev j_X3_limitStrengths : Nat := 40
abbrev j_X3_sumStrengths : Nat := 41
abbrev j_X3_countOf : Nat := 42
abbrev j_X3_countSingers : Nat := 43
abbrev j_X4_init : Nat := 44
abbrev j_X4_isMissing : Nat := 45
abbrev j_X4_has : Nat := 46
abbrev j_X4_findingAt : Nat := 47
abbrev j_X4_digestOn : Nat := 48
abbrev j_X5_init : Nat := 49
abbrev j_X5_valueAt : Nat := 50
abbrev j_X5_renew : Nat := 51
abbrev j_X6_init : Nat := 52
abbrev j_X6_follow : Nat := 53
abbrev j_X6_pass : Nat := 54
abbrev j_X6_goBack : Nat := 55
abbrev j_X7_init : Nat := 56
abbrev j_X7_row : Nat := 57
abbrev j_X7_lay : Nat := 58
abbrev j_X7_at : Nat := 59
abbrev j_X7_tear : Nat := 60
abbrev j_X7_copy : Nat := 61
abbrev j_X7_mean : Nat := 62
abbrev j_X7_text : Nat := 63
abbrev j_X7_put : Nat := 64
abbrev j_X7_fault : Nat := 65
abbrev j_X7_ship : Nat := 66
abbrev j_X7_gang : Nat := 67
abbrev j_X7_mark : Nat := 68
abbrev j_X7_force : Nat := 69
abbrev j_X7_tell : Nat := 70
abbrev j_X7_can : Nat := 71
abbrev j_X7_act : Nat := 72
abbrev j_X7_undo : Nat := 73
abbrev j_X7_keep : Nat := 74
abbrev j_X7_on : Nat := 75
abbrev j_X7_run : Nat := 76
abbrev j_X7_best : Nat := 77
abbrev j_X7_afloat : Nat := 78
abbrev j_X7_firsts : Nat := 79
abbrev j_X7_rota : Nat := 80
abbrev j_X7_watch : Nat := 81
abbrev j_X7_lasts : Nat := 82
abbrev j_X7_inches : Nat := 83
abbrev j_X7_lighten : Nat := 84
abbrev j_X7_rest : Nat := 85
abbrev j_X7_gains : Nat := 86
abbrev j_X7_feigns : Nat := 87
abbrev j_X7_kinds : Nat := 88
abbrev j_X7_leaks : Nat := 89
abbrev j_X7_odds : Nat := 90
abbrev j_X7_mid : Nat := 91
abbrev j_X7_lots : Nat := 92
abbrev j_X7_asked : Nat := 93
abbrev j_X7_upper : Nat := 94
abbrev j_X7_lower : Nat := 95
abbrev j_X7_count : Nat := 96
abbrev j_X7_finding : Nat := 97
abbrev j_X7_findings : Nat := 98
abbrev j_X7_digest : Nat := 99
abbrev j_X7_isRow : Nat := 100
abbrev j_X7_isText : Nat := 101
abbrev j_X7_isKept : Nat := 102
abbrev j_X7_isAct : Nat := 103
abbrev j_X7_isChance : Nat := 104
abbrev j_X7_isOf : Nat := 105
abbrev j_X7_entry : Nat := 106
abbrev j_X7_find : Nat := 107
abbrev j_X7_ofGang : Nat := 108
abbrev j_X7_ofShip : Nat := 109
abbrev j_X7_tally : Nat := 110
abbrev j_X7_countRows : Nat := 111
abbrev j_X7_countTexts : Nat := 112
abbrev j_X7_countKept : Nat := 113
abbrev j_X7_digestShip : Nat := 114
abbrev j_X7_strengthBehind : Nat := 115
abbrev j_X7_waterBehind : Nat := 116
abbrev j_X7_tenTo : Nat := 117
abbrev j_X7_twelveTo : Nat := 118
abbrev j_X7_spellOut : Nat := 119
abbrev j_X7_findingOfPairs : Nat := 120
abbrev j_X7_isSoIfOf : Nat := 121
abbrev j_X7_weigh : Nat := 122
abbrev j_X7_tellChance : Nat := 123
abbrev j_X7_commonDivisor : Nat := 124
abbrev j_X7_drawAct : Nat := 125
abbrev j_X8_init : Nat := 126
abbrev j_X8_in : Nat := 127
abbrev j_X8_has : Nat := 128
abbrev j_X8_find : Nat := 129
abbrev j_X8_told : Nat := 130
abbrev j_X8_isRow : Nat := 131
abbrev j_X8_isText : Nat := 132
abbrev j_X8_row : Nat := 133
abbrev j_X8_makeRow : Nat := 134
abbrev j_X8_refused : Nat := 135
abbrev j_X8_lay : Nat := 136
abbrev j_X8_at : Nat := 137
abbrev j_X8_tear : Nat := 138
abbrev j_X8_isSpan : Nat := 139
abbrev j_X8_copy : Nat := 140
abbrev j_X8_mean : Nat := 141
abbrev j_X8_text : Nat := 142
abbrev j_X8_put : Nat := 143
abbrev j_X8_here : Nat := 144
abbrev j_X8_skip : Nat := 145
abbrev j_X8_figure : Nat := 146
abbrev j_X8_kindOfLetter : Nat := 147
abbrev j_X8_readsShip : Nat := 148
abbrev j_X8_readsGang : Nat := 149
abbrev j_X8_faultOf : Nat := 150
abbrev j_X8_fault : Nat := 151
abbrev j_X8_ship : Nat := 152
abbrev j_X8_isGang : Nat := 153
abbrev j_X8_isRacing : Nat := 154
abbrev j_X8_isSung : Nat := 155
abbrev j_X8_needs : Nat := 156
abbrev j_X8_pumps : Nat := 157
abbrev j_X8_behind : Nat := 158
abbrev j_X8_pumpsNow : Nat := 159
abbrev j_X8_toldOf : Nat := 160
abbrev j_X8_gang : Nat := 161
abbrev j_X8_isOf : Nat := 162
abbrev j_X8_singing : Nat := 163
abbrev j_X8_mark : Nat := 164
abbrev j_X8_force : Nat := 165
abbrev j_X8_cut : Nat := 166
abbrev j_X8_leaking : Nat := 167
abbrev j_X8_isSunk : Nat := 168
abbrev j_X8_isOver : Nat := 169
abbrev j_X8_may : Nat := 170
abbrev j_X8_pass : Nat := 171
abbrev j_X8_isAct : Nat := 172
abbrev j_X8_tellOf : Nat := 173
abbrev j_X8_tell : Nat := 174
abbrev j_X8_canNow : Nat := 175
abbrev j_X8_can : Nat := 176
abbrev j_X8_doAct : Nat := 177
abbrev j_X8_act : Nat := 178
abbrev j_X8_undo : Nat := 179
abbrev j_X8_copyShip : Nat := 180
abbrev j_X8_keep : Nat := 181
abbrev j_X8_on : Nat := 182
abbrev j_X8_layTried : Nat := 183
abbrev j_X8_areActs : Nat := 184
abbrev j_X8_run : Nat := 185
abbrev j_X8_power : Nat := 186
abbrev j_X8_actOf : Nat := 187
abbrev j_X8_keeps : Nat := 188
abbrev j_X8_toRow : Nat := 189
abbrev j_X8_best : Nat := 190
abbrev j_X8_afloat : Nat := 191
abbrev j_X8_firsts : Nat := 192
abbrev j_X8_turn : Nat := 193
abbrev j_X8_rota : Nat := 194
abbrev j_X8_lands : Nat := 195
abbrev j_X8_watch : Nat := 196
abbrev j_X8_lasts : Nat := 197
abbrev j_X8_waterBy : Nat := 198
abbrev j_X8_inches : Nat := 199
abbrev j_X8_lighten : Nat := 200
abbrev j_X8_rest : Nat := 201
abbrev j_X8_gains : Nat := 202
abbrev j_X8_canAll : Nat := 203
abbrev j_X8_isSo : Nat := 204
abbrev j_X8_noPairs : Nat := 205
abbrev j_X8_isSoAs : Nat := 206
abbrev j_X8_feigns : Nat := 207
abbrev j_X8_kinds : Nat := 208
abbrev j_X8_leaks : Nat := 209
abbrev j_X8_tellParts : Nat := 210
abbrev j_X8_tryChokes : Nat := 211
abbrev j_X8_waysOf : Nat := 212
abbrev j_X8_isChance : Nat := 213
abbrev j_X8_tellChances : Nat := 214
abbrev j_X8_odds : Nat := 215
abbrev j_X8_mid : Nat := 216
abbrev j_X8_nthOf : Nat := 217
abbrev j_X8_many : Nat := 218
abbrev j_X8_lots : Nat := 219
abbrev j_X8_asked : Nat := 220
abbrev j_X8_upper : Nat := 221
abbrev j_X8_lower : Nat := 222
abbrev j_X8_strengthOfAll : Nat := 223
abbrev j_X8_kindMany : Nat := 224
abbrev j_X8_thereOf : Nat := 225
abbrev j_X8_countOf : Nat := 226
abbrev j_X8_count : Nat := 227
abbrev j_X8_finding : Nat := 228
abbrev j_X8_findings : Nat := 229
abbrev j_X8_digest : Nat := 230
abbrev j_J6_bitCount_0f7a4 : Nat := 231
abbrev j_J9_max_7cf53 : Nat := 232
abbrev j_J9_min_7cf53 : Nat := 233
abbrev j_J7_rangeCheck_23922 : Nat := 234
abbrev j_J7_fill_fda19 : Nat := 235
abbrev j_J7_fill_eb02e : Nat := 236
abbrev j_L_law : Nat := 237
