/-! THE WORLD behind the constructors: every place and its shape -/
def SW : List Sh := [
  .inr (.inl (7, [.inr (some (some 1)), .inr (some (some 25)), .inr (some (some 49)), .inr (some (some 243)), .inr (some (some 247)), .inr (some (some 249)), .inr (some (some 251)), .inr none, .inr none, .inr none])),
  .inr (.inl (5, [.inr (some (some 2)), .inr (some (some 13)), .inr (some (some 16)), .inr (some (some 23))])),
  .inr (.inl (4, [.inr (some (some 3)), .inr (some (some 5)), .inr (some (some 7)), .inr (some (some 9)), .inr (some (some 11)), .inr none, .inr none, .inr none])),
  .inr (.inl (6, [.inl (nI 24), .inl (nI 5), .inr (some (some 4))])),
  .inl (0, 120),
  .inr (.inl (6, [.inl (nI 24), .inl (nI 4), .inr (some (some 6))])),
  .inl (0, 96),
  .inr (.inl (6, [.inl (nI 24), .inl (nI 4), .inr (some (some 8))])),
  .inl (0, 96),
  .inr (.inl (6, [.inl (nI 24), .inl (nI 12), .inr (some (some 10))])),
  .inl (0, 288),
  .inr (.inl (6, [.inl (nI 12), .inl (nI 3), .inr (some (some 12))])),
  .inl (0, 36),
  .inr (.inl (0, [.inr (some (some 14)), .inr none])),
  .inr (.inl (6, [.inl (nI 16), .inl (nI 7), .inr (some (some 15))])),
  .inl (0, 112),
  .inr (.inl (1, [.inr (some (some 17)), .inr (some (some 19)), .inr (some (some 21)), .inr none])),
  .inr (.inl (6, [.inl (nI 8), .inl (nI 1), .inr (some (some 18))])),
  .inl (0, 8),
  .inr (.inl (6, [.inl (nI 8), .inl (nI 16), .inr (some (some 20))])),
  .inl (0, 128),
  .inr (.inl (6, [.inl (nI 8), .inl (nI 16), .inr (some (some 22))])),
  .inl (0, 128),
  .inr (.inl (6, [.inl (nI 1), .inl (nI 3), .inr (some (some 24))])),
  .inl (0, 3),
  .inr (.inl (5, [.inr (some (some 26)), .inr (some (some 37)), .inr (some (some 40)), .inr (some (some 47))])),
  .inr (.inl (4, [.inr (some (some 27)), .inr (some (some 29)), .inr (some (some 31)), .inr (some (some 33)), .inr (some (some 35)), .inr none, .inr none, .inr none])),
  .inr (.inl (6, [.inl (nI 24), .inl (nI 5), .inr (some (some 28))])),
  .inl (0, 120),
  .inr (.inl (6, [.inl (nI 24), .inl (nI 4), .inr (some (some 30))])),
  .inl (0, 96),
  .inr (.inl (6, [.inl (nI 24), .inl (nI 4), .inr (some (some 32))])),
  .inl (0, 96),
  .inr (.inl (6, [.inl (nI 24), .inl (nI 12), .inr (some (some 34))])),
  .inl (0, 288),
  .inr (.inl (6, [.inl (nI 12), .inl (nI 3), .inr (some (some 36))])),
  .inl (0, 36),
  .inr (.inl (0, [.inr (some (some 38)), .inr none])),
  .inr (.inl (6, [.inl (nI 16), .inl (nI 7), .inr (some (some 39))])),
  .inl (0, 112),
  .inr (.inl (1, [.inr (some (some 41)), .inr (some (some 43)), .inr (some (some 45)), .inr none])),
  .inr (.inl (6, [.inl (nI 8), .inl (nI 1), .inr (some (some 42))])),
  .inl (0, 8),
  .inr (.inl (6, [.inl (nI 8), .inl (nI 16), .inr (some (some 44))])),
  .inl (0, 128),
  .inr (.inl (6, [.inl (nI 8), .inl (nI 16), .inr (some (some 46))])),
  .inl (0, 128),
  .inr (.inl (6, [.inl (nI 1), .inl (nI 3), .inr (some (some 48))])),
  .inl (0, 3),
  .inr (.inl (2, [.inr (some (some 50)), .inr none, .inr none])),
  .inr (.inr [some 51, some 75, some 99, some 123, some 147, some 171, some 195, some 219]),
  .inr (.inl (5, [.inr (some (some 52)), .inr (some (some 63)), .inr (some (some 66)), .inr (some (some 73))])),
  .inr (.inl (4, [.inr (some (some 53)), .inr (some (some 55)), .inr (some (some 57)), .inr (some (some 59)), .inr (some (some 61)), .inr none, .inr none, .inr none])),
  .inr (.inl (6, [.inl (nI 24), .inl (nI 5), .inr (some (some 54))])),
  .inl (0, 120),
  .inr (.inl (6, [.inl (nI 24), .inl (nI 4), .inr (some (some 56))])),
  .inl (0, 96),
  .inr (.inl (6, [.inl (nI 24), .inl (nI 4), .inr (some (some 58))])),
  .inl (0, 96),
  .inr (.inl (6, [.inl (nI 24), .inl (nI 12), .inr (some (some 60))])),
  .inl (0, 288),
  .inr (.inl (6, [.inl (nI 12), .inl (nI 3), .inr (some (some 62))])),
  .inl (0, 36),
  .inr (.inl (0, [.inr (some (some 64)), .inr none])),
  .inr (.inl (6, [.inl (nI 16), .inl (nI 7), .inr (some (some 65))])),
  .inl (0, 112),
  .inr (.inl (1, [.inr (some (some 67)), .inr (some (some 69)), .inr (some (some 71)), .inr none])),
  .inr (.inl (6, [.inl (nI 8), .inl (nI 1), .inr (some (some 68))])),
  .inl (0, 8),
  .inr (.inl (6, [.inl (nI 8), .inl (nI 16), .inr (some (some 70))])),
  .inl (0, 128),
  .inr (.inl (6, [.inl (nI 8), .inl (nI 16), .inr (some (some 72))])),
  .inl (0, 128),
  .inr (.inl (6, [.inl (nI 1), .inl (nI 3), .inr (some (some 74))])),
  .inl (0, 3),
  .inr (.inl (5, [.inr (some (some 76)), .inr (some (some 87)), .inr (some (some 90)), .inr (some (some 97))])),
  .inr (.inl (4, [.inr (some (some 77)), .inr (some (some 79)), .inr (some (some 81)), .inr (some (some 83)), .inr (some (some 85)), .inr none, .inr none, .inr none])),
  .inr (.inl (6, [.inl (nI 24), .inl (nI 5), .inr (some (some 78))])),
  .inl (0, 120),
  .inr (.inl (6, [.inl (nI 24), .inl (nI 4), .inr (some (some 80))])),
  .inl (0, 96),
  .inr (.inl (6, [.inl (nI 24), .inl (nI 4), .inr (some (some 82))])),
  .inl (0, 96),
  .inr (.inl (6, [.inl (nI 24), .inl (nI 12), .inr (some (some 84))])),
  .inl (0, 288),
  .inr (.inl (6, [.inl (nI 12), .inl (nI 3), .inr (some (some 86))])),
  .inl (0, 36),
  .inr (.inl (0, [.inr (some (some 88)), .inr none])),
  .inr (.inl (6, [.inl (nI 16), .inl (nI 7), .inr (some (some 89))])),
  .inl (0, 112),
  .inr (.inl (1, [.inr (some (some 91)), .inr (some (some 93)), .inr (some (some 95)), .inr none])),
  .inr (.inl (6, [.inl (nI 8), .inl (nI 1), .inr (some (some 92))])),
  .inl (0, 8),
  .inr (.inl (6, [.inl (nI 8), .inl (nI 16), .inr (some (some 94))])),
  .inl (0, 128),
  .inr (.inl (6, [.inl (nI 8), .inl (nI 16), .inr (some (some 96))])),
  .inl (0, 128),
  .inr (.inl (6, [.inl (nI 1), .inl (nI 3), .inr (some (some 98))])),
  .inl (0, 3),
  .inr (.inl (5, [.inr (some (some 100)), .inr (some (some 111)), .inr (some (some 114)), .inr (some (some 121))])),
  .inr (.inl (4, [.inr (some (some 101)), .inr (some (some 103)), .inr (some (some 105)), .inr (some (some 107)), .inr (some (some 109)), .inr none, .inr none, .inr none])),
  .inr (.inl (6, [.inl (nI 24), .inl (nI 5), .inr (some (some 102))])),
  .inl (0, 120),
  .inr (.inl (6, [.inl (nI 24), .inl (nI 4), .inr (some (some 104))])),
  .inl (0, 96),
  .inr (.inl (6, [.inl (nI 24), .inl (nI 4), .inr (some (some 106))])),
  .inl (0, 96),
  .inr (.inl (6, [.inl (nI 24), .inl (nI 12), .inr (some (some 108))])),
  .inl (0, 288),
  .inr (.inl (6, [.inl (nI 12), .inl (nI 3), .inr (some (some 110))])),
  .inl (0, 36),
  .inr (.inl (0, [.inr (some (some 112)), .inr none])),
  .inr (.inl (6, [.inl (nI 16), .inl (nI 7), .inr (some (some 113))])),
  .inl (0, 112),
  .inr (.inl (1, [.inr (some (some 115)), .inr (some (some 117)), .inr (some (some 119)), .inr none])),
  .inr (.inl (6, [.inl (nI 8), .inl (nI 1), .inr (some (some 116))])),
  .inl (0, 8),
  .inr (.inl (6, [.inl (nI 8), .inl (nI 16), .inr (some (some 118))])),
  .inl (0, 128),
  .inr (.inl (6, [.inl (nI 8), .inl (nI 16), .inr (some (some 120))])),
  .inl (0, 128),
  .inr (.inl (6, [.inl (nI 1), .inl (nI 3), .inr (some (some 122))])),
  .inl (0, 3),
  .inr (.inl (5, [.inr (some (some 124)), .inr (some (some 135)), .inr (some (some 138)), .inr (some (some 145))])),
  .inr (.inl (4, [.inr (some (some 125)), .inr (some (some 127)), .inr (some (some 129)), .inr (some (some 131)), .inr (some (some 133)), .inr none, .inr none, .inr none])),
  .inr (.inl (6, [.inl (nI 24), .inl (nI 5), .inr (some (some 126))])),
  .inl (0, 120),
  .inr (.inl (6, [.inl (nI 24), .inl (nI 4), .inr (some (some 128))])),
  .inl (0, 96),
  .inr (.inl (6, [.inl (nI 24), .inl (nI 4), .inr (some (some 130))])),
  .inl (0, 96),
  .inr (.inl (6, [.inl (nI 24), .inl (nI 12), .inr (some (some 132))])),
  .inl (0, 288),
  .inr (.inl (6, [.inl (nI 12), .inl (nI 3), .inr (some (some 134))])),
  .inl (0, 36),
  .inr (.inl (0, [.inr (some (some 136)), .inr none])),
  .inr (.inl (6, [.inl (nI 16), .inl (nI 7), .inr (some (some 137))])),
  .inl (0, 112),
  .inr (.inl (1, [.inr (some (some 139)), .inr (some (some 141)), .inr (some (some 143)), .inr none])),
  .inr (.inl (6, [.inl (nI 8), .inl (nI 1), .inr (some (some 140))])),
  .inl (0, 8),
  .inr (.inl (6, [.inl (nI 8), .inl (nI 16), .inr (some (some 142))])),
  .inl (0, 128),
  .inr (.inl (6, [.inl (nI 8), .inl (nI 16), .inr (some (some 144))])),
  .inl (0, 128),
  .inr (.inl (6, [.inl (nI 1), .inl (nI 3), .inr (some (some 146))])),
  .inl (0, 3),
  .inr (.inl (5, [.inr (some (some 148)), .inr (some (some 159)), .inr (some (some 162)), .inr (some (some 169))])),
  .inr (.inl (4, [.inr (some (some 149)), .inr (some (some 151)), .inr (some (some 153)), .inr (some (some 155)), .inr (some (some 157)), .inr none, .inr none, .inr none])),
  .inr (.inl (6, [.inl (nI 24), .inl (nI 5), .inr (some (some 150))])),
  .inl (0, 120),
  .inr (.inl (6, [.inl (nI 24), .inl (nI 4), .inr (some (some 152))])),
  .inl (0, 96),
  .inr (.inl (6, [.inl (nI 24), .inl (nI 4), .inr (some (some 154))])),
  .inl (0, 96),
  .inr (.inl (6, [.inl (nI 24), .inl (nI 12), .inr (some (some 156))])),
  .inl (0, 288),
  .inr (.inl (6, [.inl (nI 12), .inl (nI 3), .inr (some (some 158))])),
  .inl (0, 36),
  .inr (.inl (0, [.inr (some (some 160)), .inr none])),
  .inr (.inl (6, [.inl (nI 16), .inl (nI 7), .inr (some (some 161))])),
  .inl (0, 112),
  .inr (.inl (1, [.inr (some (some 163)), .inr (some (some 165)), .inr (some (some 167)), .inr none])),
  .inr (.inl (6, [.inl (nI 8), .inl (nI 1), .inr (some (some 164))])),
  .inl (0, 8),
  .inr (.inl (6, [.inl (nI 8), .inl (nI 16), .inr (some (some 166))])),
  .inl (0, 128),
  .inr (.inl (6, [.inl (nI 8), .inl (nI 16), .inr (some (some 168))])),
  .inl (0, 128),
  .inr (.inl (6, [.inl (nI 1), .inl (nI 3), .inr (some (some 170))])),
  .inl (0, 3),
  .inr (.inl (5, [.inr (some (some 172)), .inr (some (some 183)), .inr (some (some 186)), .inr (some (some 193))])),
  .inr (.inl (4, [.inr (some (some 173)), .inr (some (some 175)), .inr (some (some 177)), .inr (some (some 179)), .inr (some (some 181)), .inr none, .inr none, .inr none])),
  .inr (.inl (6, [.inl (nI 24), .inl (nI 5), .inr (some (some 174))])),
  .inl (0, 120),
  .inr (.inl (6, [.inl (nI 24), .inl (nI 4), .inr (some (some 176))])),
  .inl (0, 96),
  .inr (.inl (6, [.inl (nI 24), .inl (nI 4), .inr (some (some 178))])),
  .inl (0, 96),
  .inr (.inl (6, [.inl (nI 24), .inl (nI 12), .inr (some (some 180))])),
  .inl (0, 288),
  .inr (.inl (6, [.inl (nI 12), .inl (nI 3), .inr (some (some 182))])),
  .inl (0, 36),
  .inr (.inl (0, [.inr (some (some 184)), .inr none])),
  .inr (.inl (6, [.inl (nI 16), .inl (nI 7), .inr (some (some 185))])),
  .inl (0, 112),
  .inr (.inl (1, [.inr (some (some 187)), .inr (some (some 189)), .inr (some (some 191)), .inr none])),
  .inr (.inl (6, [.inl (nI 8), .inl (nI 1), .inr (some (some 188))])),
  .inl (0, 8),
  .inr (.inl (6, [.inl (nI 8), .inl (nI 16), .inr (some (some 190))])),
  .inl (0, 128),
  .inr (.inl (6, [.inl (nI 8), .inl (nI 16), .inr (some (some 192))])),
  .inl (0, 128),
  .inr (.inl (6, [.inl (nI 1), .inl (nI 3), .inr (some (some 194))])),
  .inl (0, 3),
  .inr (.inl (5, [.inr (some (some 196)), .inr (some (some 207)), .inr (some (some 210)), .inr (some (some 217))])),
  .inr (.inl (4, [.inr (some (some 197)), .inr (some (some 199)), .inr (some (some 201)), .inr (some (some 203)), .inr (some (some 205)), .inr none, .inr none, .inr none])),
  .inr (.inl (6, [.inl (nI 24), .inl (nI 5), .inr (some (some 198))])),
  .inl (0, 120),
  .inr (.inl (6, [.inl (nI 24), .inl (nI 4), .inr (some (some 200))])),
  .inl (0, 96),
  .inr (.inl (6, [.inl (nI 24), .inl (nI 4), .inr (some (some 202))])),
  .inl (0, 96),
  .inr (.inl (6, [.inl (nI 24), .inl (nI 12), .inr (some (some 204))])),
  .inl (0, 288),
  .inr (.inl (6, [.inl (nI 12), .inl (nI 3), .inr (some (some 206))])),
  .inl (0, 36),
  .inr (.inl (0, [.inr (some (some 208)), .inr none])),
  .inr (.inl (6, [.inl (nI 16), .inl (nI 7), .inr (some (some 209))])),
  .inl (0, 112),
  .inr (.inl (1, [.inr (some (some 211)), .inr (some (some 213)), .inr (some (some 215)), .inr none])),
  .inr (.inl (6, [.inl (nI 8), .inl (nI 1), .inr (some (some 212))])),
  .inl (0, 8),
  .inr (.inl (6, [.inl (nI 8), .inl (nI 16), .inr (some (some 214))])),
  .inl (0, 128),
  .inr (.inl (6, [.inl (nI 8), .inl (nI 16), .inr (some (some 216))])),
  .inl (0, 128),
  .inr (.inl (6, [.inl (nI 1), .inl (nI 3), .inr (some (some 218))])),
  .inl (0, 3),
  .inr (.inl (5, [.inr (some (some 220)), .inr (some (some 231)), .inr (some (some 234)), .inr (some (some 241))])),
  .inr (.inl (4, [.inr (some (some 221)), .inr (some (some 223)), .inr (some (some 225)), .inr (some (some 227)), .inr (some (some 229)), .inr none, .inr none, .inr none])),
  .inr (.inl (6, [.inl (nI 24), .inl (nI 5), .inr (some (some 222))])),
  .inl (0, 120),
  .inr (.inl (6, [.inl (nI 24), .inl (nI 4), .inr (some (some 224))])),
  .inl (0, 96),
  .inr (.inl (6, [.inl (nI 24), .inl (nI 4), .inr (some (some 226))])),
  .inl (0, 96),
  .inr (.inl (6, [.inl (nI 24), .inl (nI 12), .inr (some (some 228))])),
  .inl (0, 288),
  .inr (.inl (6, [.inl (nI 12), .inl (nI 3), .inr (some (some 230))])),
  .inl (0, 36),
  .inr (.inl (0, [.inr (some (some 232)), .inr none])),
  .inr (.inl (6, [.inl (nI 16), .inl (nI 7), .inr (some (some 233))])),
  .inl (0, 112),
  .inr (.inl (1, [.inr (some (some 235)), .inr (some (some 237)), .inr (some (some 239)), .inr none])),
  .inr (.inl (6, [.inl (nI 8), .inl (nI 1), .inr (some (some 236))])),
  .inl (0, 8),
  .inr (.inl (6, [.inl (nI 8), .inl (nI 16), .inr (some (some 238))])),
  .inl (0, 128),
  .inr (.inl (6, [.inl (nI 8), .inl (nI 16), .inr (some (some 240))])),
  .inl (0, 128),
  .inr (.inl (6, [.inl (nI 1), .inl (nI 3), .inr (some (some 242))])),
  .inl (0, 3),
  .inr (.inl (3, [.inr (some (some 244)), .inr (some (some 245)), .inr none, .inr none, .inr none, .inr none])),
  .inl (1, 40),
  .inr (.inl (6, [.inl (nI 4), .inl (nI 2), .inr (some (some 246))])),
  .inl (0, 8),
  .inr (.inl (6, [.inl (nI 1), .inl (nI 8), .inr (some (some 248))])),
  .inl (0, 8),
  .inr (.inl (6, [.inl (nI 1), .inl (nI 12), .inr (some (some 250))])),
  .inl (0, 12),
  .inr (.inl (6, [.inl (nI 1), .inl (nI 24), .inr (some (some 252))])),
  .inl (0, 24),
  .inr (.inl (8, [.inr (some (some 254)), .inr (some (some 255)), .inr none, .inr (some (some 256)), .inr none, .inr none, .inr none, .inr none, .inr (some (some 257)), .inr none, .inr none, .inr none, .inr none, .inr none, .inr (some (some 258)), .inr (some (some 259)), .inr (some (some 260)), .inr (some (some 261)), .inr (some (some 262))])),
  .inl (0, 1032),
  .inl (0, 8256),
  .inl (0, 1032),
  .inl (1, 40),
  .inl (0, 4),
  .inl (0, 4),
  .inl (0, 12),
  .inl (0, 8),
  .inl (0, 24),
  .inl (2, 1),
  .inl (3, 1)]
set_option maxRecDepth 100000 in
theorem sh_0 : SW[0]? = some (.inr (.inl (7, [.inr (some (some 1)), .inr (some (some 25)), .inr (some (some 49)), .inr (some (some 243)), .inr (some (some 247)), .inr (some (some 249)), .inr (some (some 251)), .inr none, .inr none, .inr none]))) := rfl
set_option maxRecDepth 100000 in
theorem sh_1 : SW[1]? = some (.inr (.inl (5, [.inr (some (some 2)), .inr (some (some 13)), .inr (some (some 16)), .inr (some (some 23))]))) := rfl
set_option maxRecDepth 100000 in
theorem sh_2 : SW[2]? = some (.inr (.inl (4, [.inr (some (some 3)), .inr (some (some 5)), .inr (some (some 7)), .inr (some (some 9)), .inr (some (some 11)), .inr none, .inr none, .inr none]))) := rfl
set_option maxRecDepth 100000 in
theorem sh_3 : SW[3]? = some (.inr (.inl (6, [.inl (nI 24), .inl (nI 5), .inr (some (some 4))]))) := rfl
set_option maxRecDepth 100000 in
theorem sh_4 : SW[4]? = some (.inl (0, 120)) := rfl
set_option maxRecDepth 100000 in
theorem sh_5 : SW[5]? = some (.inr (.inl (6, [.inl (nI 24), .inl (nI 4), .inr (some (some 6))]))) := rfl
set_option maxRecDepth 100000 in
theorem sh_6 : SW[6]? = some (.inl (0, 96)) := rfl
set_option maxRecDepth 100000 in
theorem sh_7 : SW[7]? = some (.inr (.inl (6, [.inl (nI 24), .inl (nI 4), .inr (some (some 8))]))) := rfl
set_option maxRecDepth 100000 in
theorem sh_8 : SW[8]? = some (.inl (0, 96)) := rfl
set_option maxRecDepth 100000 in
theorem sh_9 : SW[9]? = some (.inr (.inl (6, [.inl (nI 24), .inl (nI 12), .inr (some (some 10))]))) := rfl
set_option maxRecDepth 100000 in
theorem sh_10 : SW[10]? = some (.inl (0, 288)) := rfl
set_option maxRecDepth 100000 in
theorem sh_11 : SW[11]? = some (.inr (.inl (6, [.inl (nI 12), .inl (nI 3), .inr (some (some 12))]))) := rfl
set_option maxRecDepth 100000 in
theorem sh_12 : SW[12]? = some (.inl (0, 36)) := rfl
set_option maxRecDepth 100000 in
theorem sh_13 : SW[13]? = some (.inr (.inl (0, [.inr (some (some 14)), .inr none]))) := rfl
set_option maxRecDepth 100000 in
theorem sh_14 : SW[14]? = some (.inr (.inl (6, [.inl (nI 16), .inl (nI 7), .inr (some (some 15))]))) := rfl
set_option maxRecDepth 100000 in
theorem sh_15 : SW[15]? = some (.inl (0, 112)) := rfl
set_option maxRecDepth 100000 in
theorem sh_16 : SW[16]? = some (.inr (.inl (1, [.inr (some (some 17)), .inr (some (some 19)), .inr (some (some 21)), .inr none]))) := rfl
set_option maxRecDepth 100000 in
theorem sh_17 : SW[17]? = some (.inr (.inl (6, [.inl (nI 8), .inl (nI 1), .inr (some (some 18))]))) := rfl
set_option maxRecDepth 100000 in
theorem sh_18 : SW[18]? = some (.inl (0, 8)) := rfl
set_option maxRecDepth 100000 in
theorem sh_19 : SW[19]? = some (.inr (.inl (6, [.inl (nI 8), .inl (nI 16), .inr (some (some 20))]))) := rfl
set_option maxRecDepth 100000 in
theorem sh_20 : SW[20]? = some (.inl (0, 128)) := rfl
set_option maxRecDepth 100000 in
theorem sh_21 : SW[21]? = some (.inr (.inl (6, [.inl (nI 8), .inl (nI 16), .inr (some (some 22))]))) := rfl
set_option maxRecDepth 100000 in
theorem sh_22 : SW[22]? = some (.inl (0, 128)) := rfl
set_option maxRecDepth 100000 in
theorem sh_23 : SW[23]? = some (.inr (.inl (6, [.inl (nI 1), .inl (nI 3), .inr (some (some 24))]))) := rfl
set_option maxRecDepth 100000 in
theorem sh_24 : SW[24]? = some (.inl (0, 3)) := rfl
set_option maxRecDepth 100000 in
theorem sh_25 : SW[25]? = some (.inr (.inl (5, [.inr (some (some 26)), .inr (some (some 37)), .inr (some (some 40)), .inr (some (some 47))]))) := rfl
set_option maxRecDepth 100000 in
theorem sh_26 : SW[26]? = some (.inr (.inl (4, [.inr (some (some 27)), .inr (some (some 29)), .inr (some (some 31)), .inr (some (some 33)), .inr (some (some 35)), .inr none, .inr none, .inr none]))) := rfl
set_option maxRecDepth 100000 in
theorem sh_27 : SW[27]? = some (.inr (.inl (6, [.inl (nI 24), .inl (nI 5), .inr (some (some 28))]))) := rfl
set_option maxRecDepth 100000 in
theorem sh_28 : SW[28]? = some (.inl (0, 120)) := rfl
set_option maxRecDepth 100000 in
theorem sh_29 : SW[29]? = some (.inr (.inl (6, [.inl (nI 24), .inl (nI 4), .inr (some (some 30))]))) := rfl
set_option maxRecDepth 100000 in
theorem sh_30 : SW[30]? = some (.inl (0, 96)) := rfl
set_option maxRecDepth 100000 in
theorem sh_31 : SW[31]? = some (.inr (.inl (6, [.inl (nI 24), .inl (nI 4), .inr (some (some 32))]))) := rfl
set_option maxRecDepth 100000 in
theorem sh_32 : SW[32]? = some (.inl (0, 96)) := rfl
set_option maxRecDepth 100000 in
theorem sh_33 : SW[33]? = some (.inr (.inl (6, [.inl (nI 24), .inl (nI 12), .inr (some (some 34))]))) := rfl
set_option maxRecDepth 100000 in
theorem sh_34 : SW[34]? = some (.inl (0, 288)) := rfl
set_option maxRecDepth 100000 in
theorem sh_35 : SW[35]? = some (.inr (.inl (6, [.inl (nI 12), .inl (nI 3), .inr (some (some 36))]))) := rfl
set_option maxRecDepth 100000 in
theorem sh_36 : SW[36]? = some (.inl (0, 36)) := rfl
set_option maxRecDepth 100000 in
theorem sh_37 : SW[37]? = some (.inr (.inl (0, [.inr (some (some 38)), .inr none]))) := rfl
set_option maxRecDepth 100000 in
theorem sh_38 : SW[38]? = some (.inr (.inl (6, [.inl (nI 16), .inl (nI 7), .inr (some (some 39))]))) := rfl
set_option maxRecDepth 100000 in
theorem sh_39 : SW[39]? = some (.inl (0, 112)) := rfl
set_option maxRecDepth 100000 in
theorem sh_40 : SW[40]? = some (.inr (.inl (1, [.inr (some (some 41)), .inr (some (some 43)), .inr (some (some 45)), .inr none]))) := rfl
set_option maxRecDepth 100000 in
theorem sh_41 : SW[41]? = some (.inr (.inl (6, [.inl (nI 8), .inl (nI 1), .inr (some (some 42))]))) := rfl
set_option maxRecDepth 100000 in
theorem sh_42 : SW[42]? = some (.inl (0, 8)) := rfl
set_option maxRecDepth 100000 in
theorem sh_43 : SW[43]? = some (.inr (.inl (6, [.inl (nI 8), .inl (nI 16), .inr (some (some 44))]))) := rfl
set_option maxRecDepth 100000 in
theorem sh_44 : SW[44]? = some (.inl (0, 128)) := rfl
set_option maxRecDepth 100000 in
theorem sh_45 : SW[45]? = some (.inr (.inl (6, [.inl (nI 8), .inl (nI 16), .inr (some (some 46))]))) := rfl
set_option maxRecDepth 100000 in
theorem sh_46 : SW[46]? = some (.inl (0, 128)) := rfl
set_option maxRecDepth 100000 in
theorem sh_47 : SW[47]? = some (.inr (.inl (6, [.inl (nI 1), .inl (nI 3), .inr (some (some 48))]))) := rfl
set_option maxRecDepth 100000 in
theorem sh_48 : SW[48]? = some (.inl (0, 3)) := rfl
set_option maxRecDepth 100000 in
theorem sh_49 : SW[49]? = some (.inr (.inl (2, [.inr (some (some 50)), .inr none, .inr none]))) := rfl
set_option maxRecDepth 100000 in
theorem sh_50 : SW[50]? = some (.inr (.inr [some 51, some 75, some 99, some 123, some 147, some 171, some 195, some 219])) := rfl
set_option maxRecDepth 100000 in
theorem sh_51 : SW[51]? = some (.inr (.inl (5, [.inr (some (some 52)), .inr (some (some 63)), .inr (some (some 66)), .inr (some (some 73))]))) := rfl
set_option maxRecDepth 100000 in
theorem sh_52 : SW[52]? = some (.inr (.inl (4, [.inr (some (some 53)), .inr (some (some 55)), .inr (some (some 57)), .inr (some (some 59)), .inr (some (some 61)), .inr none, .inr none, .inr none]))) := rfl
set_option maxRecDepth 100000 in
theorem sh_53 : SW[53]? = some (.inr (.inl (6, [.inl (nI 24), .inl (nI 5), .inr (some (some 54))]))) := rfl
set_option maxRecDepth 100000 in
theorem sh_54 : SW[54]? = some (.inl (0, 120)) := rfl
set_option maxRecDepth 100000 in
theorem sh_55 : SW[55]? = some (.inr (.inl (6, [.inl (nI 24), .inl (nI 4), .inr (some (some 56))]))) := rfl
set_option maxRecDepth 100000 in
theorem sh_56 : SW[56]? = some (.inl (0, 96)) := rfl
set_option maxRecDepth 100000 in
theorem sh_57 : SW[57]? = some (.inr (.inl (6, [.inl (nI 24), .inl (nI 4), .inr (some (some 58))]))) := rfl
set_option maxRecDepth 100000 in
theorem sh_58 : SW[58]? = some (.inl (0, 96)) := rfl
set_option maxRecDepth 100000 in
theorem sh_59 : SW[59]? = some (.inr (.inl (6, [.inl (nI 24), .inl (nI 12), .inr (some (some 60))]))) := rfl
set_option maxRecDepth 100000 in
theorem sh_60 : SW[60]? = some (.inl (0, 288)) := rfl
set_option maxRecDepth 100000 in
theorem sh_61 : SW[61]? = some (.inr (.inl (6, [.inl (nI 12), .inl (nI 3), .inr (some (some 62))]))) := rfl
set_option maxRecDepth 100000 in
theorem sh_62 : SW[62]? = some (.inl (0, 36)) := rfl
set_option maxRecDepth 100000 in
theorem sh_63 : SW[63]? = some (.inr (.inl (0, [.inr (some (some 64)), .inr none]))) := rfl
set_option maxRecDepth 100000 in
theorem sh_64 : SW[64]? = some (.inr (.inl (6, [.inl (nI 16), .inl (nI 7), .inr (some (some 65))]))) := rfl
set_option maxRecDepth 100000 in
theorem sh_65 : SW[65]? = some (.inl (0, 112)) := rfl
set_option maxRecDepth 100000 in
theorem sh_66 : SW[66]? = some (.inr (.inl (1, [.inr (some (some 67)), .inr (some (some 69)), .inr (some (some 71)), .inr none]))) := rfl
set_option maxRecDepth 100000 in
theorem sh_67 : SW[67]? = some (.inr (.inl (6, [.inl (nI 8), .inl (nI 1), .inr (some (some 68))]))) := rfl
set_option maxRecDepth 100000 in
theorem sh_68 : SW[68]? = some (.inl (0, 8)) := rfl
set_option maxRecDepth 100000 in
theorem sh_69 : SW[69]? = some (.inr (.inl (6, [.inl (nI 8), .inl (nI 16), .inr (some (some 70))]))) := rfl
set_option maxRecDepth 100000 in
theorem sh_70 : SW[70]? = some (.inl (0, 128)) := rfl
set_option maxRecDepth 100000 in
theorem sh_71 : SW[71]? = some (.inr (.inl (6, [.inl (nI 8), .inl (nI 16), .inr (some (some 72))]))) := rfl
set_option maxRecDepth 100000 in
theorem sh_72 : SW[72]? = some (.inl (0, 128)) := rfl
set_option maxRecDepth 100000 in
theorem sh_73 : SW[73]? = some (.inr (.inl (6, [.inl (nI 1), .inl (nI 3), .inr (some (some 74))]))) := rfl
set_option maxRecDepth 100000 in
theorem sh_74 : SW[74]? = some (.inl (0, 3)) := rfl
set_option maxRecDepth 100000 in
theorem sh_75 : SW[75]? = some (.inr (.inl (5, [.inr (some (some 76)), .inr (some (some 87)), .inr (some (some 90)), .inr (some (some 97))]))) := rfl
set_option maxRecDepth 100000 in
theorem sh_76 : SW[76]? = some (.inr (.inl (4, [.inr (some (some 77)), .inr (some (some 79)), .inr (some (some 81)), .inr (some (some 83)), .inr (some (some 85)), .inr none, .inr none, .inr none]))) := rfl
set_option maxRecDepth 100000 in
theorem sh_77 : SW[77]? = some (.inr (.inl (6, [.inl (nI 24), .inl (nI 5), .inr (some (some 78))]))) := rfl
set_option maxRecDepth 100000 in
theorem sh_78 : SW[78]? = some (.inl (0, 120)) := rfl
set_option maxRecDepth 100000 in
theorem sh_79 : SW[79]? = some (.inr (.inl (6, [.inl (nI 24), .inl (nI 4), .inr (some (some 80))]))) := rfl
set_option maxRecDepth 100000 in
theorem sh_80 : SW[80]? = some (.inl (0, 96)) := rfl
set_option maxRecDepth 100000 in
theorem sh_81 : SW[81]? = some (.inr (.inl (6, [.inl (nI 24), .inl (nI 4), .inr (some (some 82))]))) := rfl
set_option maxRecDepth 100000 in
theorem sh_82 : SW[82]? = some (.inl (0, 96)) := rfl
set_option maxRecDepth 100000 in
theorem sh_83 : SW[83]? = some (.inr (.inl (6, [.inl (nI 24), .inl (nI 12), .inr (some (some 84))]))) := rfl
set_option maxRecDepth 100000 in
theorem sh_84 : SW[84]? = some (.inl (0, 288)) := rfl
set_option maxRecDepth 100000 in
theorem sh_85 : SW[85]? = some (.inr (.inl (6, [.inl (nI 12), .inl (nI 3), .inr (some (some 86))]))) := rfl
set_option maxRecDepth 100000 in
theorem sh_86 : SW[86]? = some (.inl (0, 36)) := rfl
set_option maxRecDepth 100000 in
theorem sh_87 : SW[87]? = some (.inr (.inl (0, [.inr (some (some 88)), .inr none]))) := rfl
set_option maxRecDepth 100000 in
theorem sh_88 : SW[88]? = some (.inr (.inl (6, [.inl (nI 16), .inl (nI 7), .inr (some (some 89))]))) := rfl
set_option maxRecDepth 100000 in
theorem sh_89 : SW[89]? = some (.inl (0, 112)) := rfl
set_option maxRecDepth 100000 in
theorem sh_90 : SW[90]? = some (.inr (.inl (1, [.inr (some (some 91)), .inr (some (some 93)), .inr (some (some 95)), .inr none]))) := rfl
set_option maxRecDepth 100000 in
theorem sh_91 : SW[91]? = some (.inr (.inl (6, [.inl (nI 8), .inl (nI 1), .inr (some (some 92))]))) := rfl
set_option maxRecDepth 100000 in
theorem sh_92 : SW[92]? = some (.inl (0, 8)) := rfl
set_option maxRecDepth 100000 in
theorem sh_93 : SW[93]? = some (.inr (.inl (6, [.inl (nI 8), .inl (nI 16), .inr (some (some 94))]))) := rfl
set_option maxRecDepth 100000 in
theorem sh_94 : SW[94]? = some (.inl (0, 128)) := rfl
set_option maxRecDepth 100000 in
theorem sh_95 : SW[95]? = some (.inr (.inl (6, [.inl (nI 8), .inl (nI 16), .inr (some (some 96))]))) := rfl
set_option maxRecDepth 100000 in
theorem sh_96 : SW[96]? = some (.inl (0, 128)) := rfl
set_option maxRecDepth 100000 in
theorem sh_97 : SW[97]? = some (.inr (.inl (6, [.inl (nI 1), .inl (nI 3), .inr (some (some 98))]))) := rfl
set_option maxRecDepth 100000 in
theorem sh_98 : SW[98]? = some (.inl (0, 3)) := rfl
set_option maxRecDepth 100000 in
theorem sh_99 : SW[99]? = some (.inr (.inl (5, [.inr (some (some 100)), .inr (some (some 111)), .inr (some (some 114)), .inr (some (some 121))]))) := rfl
set_option maxRecDepth 100000 in
theorem sh_100 : SW[100]? = some (.inr (.inl (4, [.inr (some (some 101)), .inr (some (some 103)), .inr (some (some 105)), .inr (some (some 107)), .inr (some (some 109)), .inr none, .inr none, .inr none]))) := rfl
set_option maxRecDepth 100000 in
theorem sh_101 : SW[101]? = some (.inr (.inl (6, [.inl (nI 24), .inl (nI 5), .inr (some (some 102))]))) := rfl
set_option maxRecDepth 100000 in
theorem sh_102 : SW[102]? = some (.inl (0, 120)) := rfl
set_option maxRecDepth 100000 in
theorem sh_103 : SW[103]? = some (.inr (.inl (6, [.inl (nI 24), .inl (nI 4), .inr (some (some 104))]))) := rfl
set_option maxRecDepth 100000 in
theorem sh_104 : SW[104]? = some (.inl (0, 96)) := rfl
set_option maxRecDepth 100000 in
theorem sh_105 : SW[105]? = some (.inr (.inl (6, [.inl (nI 24), .inl (nI 4), .inr (some (some 106))]))) := rfl
set_option maxRecDepth 100000 in
theorem sh_106 : SW[106]? = some (.inl (0, 96)) := rfl
set_option maxRecDepth 100000 in
theorem sh_107 : SW[107]? = some (.inr (.inl (6, [.inl (nI 24), .inl (nI 12), .inr (some (some 108))]))) := rfl
set_option maxRecDepth 100000 in
theorem sh_108 : SW[108]? = some (.inl (0, 288)) := rfl
set_option maxRecDepth 100000 in
theorem sh_109 : SW[109]? = some (.inr (.inl (6, [.inl (nI 12), .inl (nI 3), .inr (some (some 110))]))) := rfl
set_option maxRecDepth 100000 in
theorem sh_110 : SW[110]? = some (.inl (0, 36)) := rfl
set_option maxRecDepth 100000 in
theorem sh_111 : SW[111]? = some (.inr (.inl (0, [.inr (some (some 112)), .inr none]))) := rfl
set_option maxRecDepth 100000 in
theorem sh_112 : SW[112]? = some (.inr (.inl (6, [.inl (nI 16), .inl (nI 7), .inr (some (some 113))]))) := rfl
set_option maxRecDepth 100000 in
theorem sh_113 : SW[113]? = some (.inl (0, 112)) := rfl
set_option maxRecDepth 100000 in
theorem sh_114 : SW[114]? = some (.inr (.inl (1, [.inr (some (some 115)), .inr (some (some 117)), .inr (some (some 119)), .inr none]))) := rfl
set_option maxRecDepth 100000 in
theorem sh_115 : SW[115]? = some (.inr (.inl (6, [.inl (nI 8), .inl (nI 1), .inr (some (some 116))]))) := rfl
set_option maxRecDepth 100000 in
theorem sh_116 : SW[116]? = some (.inl (0, 8)) := rfl
set_option maxRecDepth 100000 in
theorem sh_117 : SW[117]? = some (.inr (.inl (6, [.inl (nI 8), .inl (nI 16), .inr (some (some 118))]))) := rfl
set_option maxRecDepth 100000 in
theorem sh_118 : SW[118]? = some (.inl (0, 128)) := rfl
set_option maxRecDepth 100000 in
theorem sh_119 : SW[119]? = some (.inr (.inl (6, [.inl (nI 8), .inl (nI 16), .inr (some (some 120))]))) := rfl
set_option maxRecDepth 100000 in
theorem sh_120 : SW[120]? = some (.inl (0, 128)) := rfl
set_option maxRecDepth 100000 in
theorem sh_121 : SW[121]? = some (.inr (.inl (6, [.inl (nI 1), .inl (nI 3), .inr (some (some 122))]))) := rfl
set_option maxRecDepth 100000 in
theorem sh_122 : SW[122]? = some (.inl (0, 3)) := rfl
set_option maxRecDepth 100000 in
theorem sh_123 : SW[123]? = some (.inr (.inl (5, [.inr (some (some 124)), .inr (some (some 135)), .inr (some (some 138)), .inr (some (some 145))]))) := rfl
set_option maxRecDepth 100000 in
theorem sh_124 : SW[124]? = some (.inr (.inl (4, [.inr (some (some 125)), .inr (some (some 127)), .inr (some (some 129)), .inr (some (some 131)), .inr (some (some 133)), .inr none, .inr none, .inr none]))) := rfl
set_option maxRecDepth 100000 in
theorem sh_125 : SW[125]? = some (.inr (.inl (6, [.inl (nI 24), .inl (nI 5), .inr (some (some 126))]))) := rfl
set_option maxRecDepth 100000 in
theorem sh_126 : SW[126]? = some (.inl (0, 120)) := rfl
set_option maxRecDepth 100000 in
theorem sh_127 : SW[127]? = some (.inr (.inl (6, [.inl (nI 24), .inl (nI 4), .inr (some (some 128))]))) := rfl
set_option maxRecDepth 100000 in
theorem sh_128 : SW[128]? = some (.inl (0, 96)) := rfl
set_option maxRecDepth 100000 in
theorem sh_129 : SW[129]? = some (.inr (.inl (6, [.inl (nI 24), .inl (nI 4), .inr (some (some 130))]))) := rfl
set_option maxRecDepth 100000 in
theorem sh_130 : SW[130]? = some (.inl (0, 96)) := rfl
set_option maxRecDepth 100000 in
theorem sh_131 : SW[131]? = some (.inr (.inl (6, [.inl (nI 24), .inl (nI 12), .inr (some (some 132))]))) := rfl
set_option maxRecDepth 100000 in
theorem sh_132 : SW[132]? = some (.inl (0, 288)) := rfl
set_option maxRecDepth 100000 in
theorem sh_133 : SW[133]? = some (.inr (.inl (6, [.inl (nI 12), .inl (nI 3), .inr (some (some 134))]))) := rfl
set_option maxRecDepth 100000 in
theorem sh_134 : SW[134]? = some (.inl (0, 36)) := rfl
set_option maxRecDepth 100000 in
theorem sh_135 : SW[135]? = some (.inr (.inl (0, [.inr (some (some 136)), .inr none]))) := rfl
set_option maxRecDepth 100000 in
theorem sh_136 : SW[136]? = some (.inr (.inl (6, [.inl (nI 16), .inl (nI 7), .inr (some (some 137))]))) := rfl
set_option maxRecDepth 100000 in
theorem sh_137 : SW[137]? = some (.inl (0, 112)) := rfl
set_option maxRecDepth 100000 in
theorem sh_138 : SW[138]? = some (.inr (.inl (1, [.inr (some (some 139)), .inr (some (some 141)), .inr (some (some 143)), .inr none]))) := rfl
set_option maxRecDepth 100000 in
theorem sh_139 : SW[139]? = some (.inr (.inl (6, [.inl (nI 8), .inl (nI 1), .inr (some (some 140))]))) := rfl
set_option maxRecDepth 100000 in
theorem sh_140 : SW[140]? = some (.inl (0, 8)) := rfl
set_option maxRecDepth 100000 in
theorem sh_141 : SW[141]? = some (.inr (.inl (6, [.inl (nI 8), .inl (nI 16), .inr (some (some 142))]))) := rfl
set_option maxRecDepth 100000 in
theorem sh_142 : SW[142]? = some (.inl (0, 128)) := rfl
set_option maxRecDepth 100000 in
theorem sh_143 : SW[143]? = some (.inr (.inl (6, [.inl (nI 8), .inl (nI 16), .inr (some (some 144))]))) := rfl
set_option maxRecDepth 100000 in
theorem sh_144 : SW[144]? = some (.inl (0, 128)) := rfl
set_option maxRecDepth 100000 in
theorem sh_145 : SW[145]? = some (.inr (.inl (6, [.inl (nI 1), .inl (nI 3), .inr (some (some 146))]))) := rfl
set_option maxRecDepth 100000 in
theorem sh_146 : SW[146]? = some (.inl (0, 3)) := rfl
set_option maxRecDepth 100000 in
theorem sh_147 : SW[147]? = some (.inr (.inl (5, [.inr (some (some 148)), .inr (some (some 159)), .inr (some (some 162)), .inr (some (some 169))]))) := rfl
set_option maxRecDepth 100000 in
theorem sh_148 : SW[148]? = some (.inr (.inl (4, [.inr (some (some 149)), .inr (some (some 151)), .inr (some (some 153)), .inr (some (some 155)), .inr (some (some 157)), .inr none, .inr none, .inr none]))) := rfl
set_option maxRecDepth 100000 in
theorem sh_149 : SW[149]? = some (.inr (.inl (6, [.inl (nI 24), .inl (nI 5), .inr (some (some 150))]))) := rfl
set_option maxRecDepth 100000 in
theorem sh_150 : SW[150]? = some (.inl (0, 120)) := rfl
set_option maxRecDepth 100000 in
theorem sh_151 : SW[151]? = some (.inr (.inl (6, [.inl (nI 24), .inl (nI 4), .inr (some (some 152))]))) := rfl
set_option maxRecDepth 100000 in
theorem sh_152 : SW[152]? = some (.inl (0, 96)) := rfl
set_option maxRecDepth 100000 in
theorem sh_153 : SW[153]? = some (.inr (.inl (6, [.inl (nI 24), .inl (nI 4), .inr (some (some 154))]))) := rfl
set_option maxRecDepth 100000 in
theorem sh_154 : SW[154]? = some (.inl (0, 96)) := rfl
set_option maxRecDepth 100000 in
theorem sh_155 : SW[155]? = some (.inr (.inl (6, [.inl (nI 24), .inl (nI 12), .inr (some (some 156))]))) := rfl
set_option maxRecDepth 100000 in
theorem sh_156 : SW[156]? = some (.inl (0, 288)) := rfl
set_option maxRecDepth 100000 in
theorem sh_157 : SW[157]? = some (.inr (.inl (6, [.inl (nI 12), .inl (nI 3), .inr (some (some 158))]))) := rfl
set_option maxRecDepth 100000 in
theorem sh_158 : SW[158]? = some (.inl (0, 36)) := rfl
set_option maxRecDepth 100000 in
theorem sh_159 : SW[159]? = some (.inr (.inl (0, [.inr (some (some 160)), .inr none]))) := rfl
set_option maxRecDepth 100000 in
theorem sh_160 : SW[160]? = some (.inr (.inl (6, [.inl (nI 16), .inl (nI 7), .inr (some (some 161))]))) := rfl
set_option maxRecDepth 100000 in
theorem sh_161 : SW[161]? = some (.inl (0, 112)) := rfl
set_option maxRecDepth 100000 in
theorem sh_162 : SW[162]? = some (.inr (.inl (1, [.inr (some (some 163)), .inr (some (some 165)), .inr (some (some 167)), .inr none]))) := rfl
set_option maxRecDepth 100000 in
theorem sh_163 : SW[163]? = some (.inr (.inl (6, [.inl (nI 8), .inl (nI 1), .inr (some (some 164))]))) := rfl
set_option maxRecDepth 100000 in
theorem sh_164 : SW[164]? = some (.inl (0, 8)) := rfl
set_option maxRecDepth 100000 in
theorem sh_165 : SW[165]? = some (.inr (.inl (6, [.inl (nI 8), .inl (nI 16), .inr (some (some 166))]))) := rfl
set_option maxRecDepth 100000 in
theorem sh_166 : SW[166]? = some (.inl (0, 128)) := rfl
set_option maxRecDepth 100000 in
theorem sh_167 : SW[167]? = some (.inr (.inl (6, [.inl (nI 8), .inl (nI 16), .inr (some (some 168))]))) := rfl
set_option maxRecDepth 100000 in
theorem sh_168 : SW[168]? = some (.inl (0, 128)) := rfl
set_option maxRecDepth 100000 in
theorem sh_169 : SW[169]? = some (.inr (.inl (6, [.inl (nI 1), .inl (nI 3), .inr (some (some 170))]))) := rfl
set_option maxRecDepth 100000 in
theorem sh_170 : SW[170]? = some (.inl (0, 3)) := rfl
set_option maxRecDepth 100000 in
theorem sh_171 : SW[171]? = some (.inr (.inl (5, [.inr (some (some 172)), .inr (some (some 183)), .inr (some (some 186)), .inr (some (some 193))]))) := rfl
set_option maxRecDepth 100000 in
theorem sh_172 : SW[172]? = some (.inr (.inl (4, [.inr (some (some 173)), .inr (some (some 175)), .inr (some (some 177)), .inr (some (some 179)), .inr (some (some 181)), .inr none, .inr none, .inr none]))) := rfl
set_option maxRecDepth 100000 in
theorem sh_173 : SW[173]? = some (.inr (.inl (6, [.inl (nI 24), .inl (nI 5), .inr (some (some 174))]))) := rfl
set_option maxRecDepth 100000 in
theorem sh_174 : SW[174]? = some (.inl (0, 120)) := rfl
set_option maxRecDepth 100000 in
theorem sh_175 : SW[175]? = some (.inr (.inl (6, [.inl (nI 24), .inl (nI 4), .inr (some (some 176))]))) := rfl
set_option maxRecDepth 100000 in
theorem sh_176 : SW[176]? = some (.inl (0, 96)) := rfl
set_option maxRecDepth 100000 in
theorem sh_177 : SW[177]? = some (.inr (.inl (6, [.inl (nI 24), .inl (nI 4), .inr (some (some 178))]))) := rfl
set_option maxRecDepth 100000 in
theorem sh_178 : SW[178]? = some (.inl (0, 96)) := rfl
set_option maxRecDepth 100000 in
theorem sh_179 : SW[179]? = some (.inr (.inl (6, [.inl (nI 24), .inl (nI 12), .inr (some (some 180))]))) := rfl
set_option maxRecDepth 100000 in
theorem sh_180 : SW[180]? = some (.inl (0, 288)) := rfl
set_option maxRecDepth 100000 in
theorem sh_181 : SW[181]? = some (.inr (.inl (6, [.inl (nI 12), .inl (nI 3), .inr (some (some 182))]))) := rfl
set_option maxRecDepth 100000 in
theorem sh_182 : SW[182]? = some (.inl (0, 36)) := rfl
set_option maxRecDepth 100000 in
theorem sh_183 : SW[183]? = some (.inr (.inl (0, [.inr (some (some 184)), .inr none]))) := rfl
set_option maxRecDepth 100000 in
theorem sh_184 : SW[184]? = some (.inr (.inl (6, [.inl (nI 16), .inl (nI 7), .inr (some (some 185))]))) := rfl
set_option maxRecDepth 100000 in
theorem sh_185 : SW[185]? = some (.inl (0, 112)) := rfl
set_option maxRecDepth 100000 in
theorem sh_186 : SW[186]? = some (.inr (.inl (1, [.inr (some (some 187)), .inr (some (some 189)), .inr (some (some 191)), .inr none]))) := rfl
set_option maxRecDepth 100000 in
theorem sh_187 : SW[187]? = some (.inr (.inl (6, [.inl (nI 8), .inl (nI 1), .inr (some (some 188))]))) := rfl
set_option maxRecDepth 100000 in
theorem sh_188 : SW[188]? = some (.inl (0, 8)) := rfl
set_option maxRecDepth 100000 in
theorem sh_189 : SW[189]? = some (.inr (.inl (6, [.inl (nI 8), .inl (nI 16), .inr (some (some 190))]))) := rfl
set_option maxRecDepth 100000 in
theorem sh_190 : SW[190]? = some (.inl (0, 128)) := rfl
set_option maxRecDepth 100000 in
theorem sh_191 : SW[191]? = some (.inr (.inl (6, [.inl (nI 8), .inl (nI 16), .inr (some (some 192))]))) := rfl
set_option maxRecDepth 100000 in
theorem sh_192 : SW[192]? = some (.inl (0, 128)) := rfl
set_option maxRecDepth 100000 in
theorem sh_193 : SW[193]? = some (.inr (.inl (6, [.inl (nI 1), .inl (nI 3), .inr (some (some 194))]))) := rfl
set_option maxRecDepth 100000 in
theorem sh_194 : SW[194]? = some (.inl (0, 3)) := rfl
set_option maxRecDepth 100000 in
theorem sh_195 : SW[195]? = some (.inr (.inl (5, [.inr (some (some 196)), .inr (some (some 207)), .inr (some (some 210)), .inr (some (some 217))]))) := rfl
set_option maxRecDepth 100000 in
theorem sh_196 : SW[196]? = some (.inr (.inl (4, [.inr (some (some 197)), .inr (some (some 199)), .inr (some (some 201)), .inr (some (some 203)), .inr (some (some 205)), .inr none, .inr none, .inr none]))) := rfl
set_option maxRecDepth 100000 in
theorem sh_197 : SW[197]? = some (.inr (.inl (6, [.inl (nI 24), .inl (nI 5), .inr (some (some 198))]))) := rfl
set_option maxRecDepth 100000 in
theorem sh_198 : SW[198]? = some (.inl (0, 120)) := rfl
set_option maxRecDepth 100000 in
theorem sh_199 : SW[199]? = some (.inr (.inl (6, [.inl (nI 24), .inl (nI 4), .inr (some (some 200))]))) := rfl
set_option maxRecDepth 100000 in
theorem sh_200 : SW[200]? = some (.inl (0, 96)) := rfl
set_option maxRecDepth 100000 in
theorem sh_201 : SW[201]? = some (.inr (.inl (6, [.inl (nI 24), .inl (nI 4), .inr (some (some 202))]))) := rfl
set_option maxRecDepth 100000 in
theorem sh_202 : SW[202]? = some (.inl (0, 96)) := rfl
set_option maxRecDepth 100000 in
theorem sh_203 : SW[203]? = some (.inr (.inl (6, [.inl (nI 24), .inl (nI 12), .inr (some (some 204))]))) := rfl
set_option maxRecDepth 100000 in
theorem sh_204 : SW[204]? = some (.inl (0, 288)) := rfl
set_option maxRecDepth 100000 in
theorem sh_205 : SW[205]? = some (.inr (.inl (6, [.inl (nI 12), .inl (nI 3), .inr (some (some 206))]))) := rfl
set_option maxRecDepth 100000 in
theorem sh_206 : SW[206]? = some (.inl (0, 36)) := rfl
set_option maxRecDepth 100000 in
theorem sh_207 : SW[207]? = some (.inr (.inl (0, [.inr (some (some 208)), .inr none]))) := rfl
set_option maxRecDepth 100000 in
theorem sh_208 : SW[208]? = some (.inr (.inl (6, [.inl (nI 16), .inl (nI 7), .inr (some (some 209))]))) := rfl
set_option maxRecDepth 100000 in
theorem sh_209 : SW[209]? = some (.inl (0, 112)) := rfl
set_option maxRecDepth 100000 in
theorem sh_210 : SW[210]? = some (.inr (.inl (1, [.inr (some (some 211)), .inr (some (some 213)), .inr (some (some 215)), .inr none]))) := rfl
set_option maxRecDepth 100000 in
theorem sh_211 : SW[211]? = some (.inr (.inl (6, [.inl (nI 8), .inl (nI 1), .inr (some (some 212))]))) := rfl
set_option maxRecDepth 100000 in
theorem sh_212 : SW[212]? = some (.inl (0, 8)) := rfl
set_option maxRecDepth 100000 in
theorem sh_213 : SW[213]? = some (.inr (.inl (6, [.inl (nI 8), .inl (nI 16), .inr (some (some 214))]))) := rfl
set_option maxRecDepth 100000 in
theorem sh_214 : SW[214]? = some (.inl (0, 128)) := rfl
set_option maxRecDepth 100000 in
theorem sh_215 : SW[215]? = some (.inr (.inl (6, [.inl (nI 8), .inl (nI 16), .inr (some (some 216))]))) := rfl
set_option maxRecDepth 100000 in
theorem sh_216 : SW[216]? = some (.inl (0, 128)) := rfl
set_option maxRecDepth 100000 in
theorem sh_217 : SW[217]? = some (.inr (.inl (6, [.inl (nI 1), .inl (nI 3), .inr (some (some 218))]))) := rfl
set_option maxRecDepth 100000 in
theorem sh_218 : SW[218]? = some (.inl (0, 3)) := rfl
set_option maxRecDepth 100000 in
theorem sh_219 : SW[219]? = some (.inr (.inl (5, [.inr (some (some 220)), .inr (some (some 231)), .inr (some (some 234)), .inr (some (some 241))]))) := rfl
set_option maxRecDepth 100000 in
theorem sh_220 : SW[220]? = some (.inr (.inl (4, [.inr (some (some 221)), .inr (some (some 223)), .inr (some (some 225)), .inr (some (some 227)), .inr (some (some 229)), .inr none, .inr none, .inr none]))) := rfl
set_option maxRecDepth 100000 in
theorem sh_221 : SW[221]? = some (.inr (.inl (6, [.inl (nI 24), .inl (nI 5), .inr (some (some 222))]))) := rfl
set_option maxRecDepth 100000 in
theorem sh_222 : SW[222]? = some (.inl (0, 120)) := rfl
set_option maxRecDepth 100000 in
theorem sh_223 : SW[223]? = some (.inr (.inl (6, [.inl (nI 24), .inl (nI 4), .inr (some (some 224))]))) := rfl
set_option maxRecDepth 100000 in
theorem sh_224 : SW[224]? = some (.inl (0, 96)) := rfl
set_option maxRecDepth 100000 in
theorem sh_225 : SW[225]? = some (.inr (.inl (6, [.inl (nI 24), .inl (nI 4), .inr (some (some 226))]))) := rfl
set_option maxRecDepth 100000 in
theorem sh_226 : SW[226]? = some (.inl (0, 96)) := rfl
set_option maxRecDepth 100000 in
theorem sh_227 : SW[227]? = some (.inr (.inl (6, [.inl (nI 24), .inl (nI 12), .inr (some (some 228))]))) := rfl
set_option maxRecDepth 100000 in
theorem sh_228 : SW[228]? = some (.inl (0, 288)) := rfl
set_option maxRecDepth 100000 in
theorem sh_229 : SW[229]? = some (.inr (.inl (6, [.inl (nI 12), .inl (nI 3), .inr (some (some 230))]))) := rfl
set_option maxRecDepth 100000 in
theorem sh_230 : SW[230]? = some (.inl (0, 36)) := rfl
set_option maxRecDepth 100000 in
theorem sh_231 : SW[231]? = some (.inr (.inl (0, [.inr (some (some 232)), .inr none]))) := rfl
set_option maxRecDepth 100000 in
theorem sh_232 : SW[232]? = some (.inr (.inl (6, [.inl (nI 16), .inl (nI 7), .inr (some (some 233))]))) := rfl
set_option maxRecDepth 100000 in
theorem sh_233 : SW[233]? = some (.inl (0, 112)) := rfl
set_option maxRecDepth 100000 in
theorem sh_234 : SW[234]? = some (.inr (.inl (1, [.inr (some (some 235)), .inr (some (some 237)), .inr (some (some 239)), .inr none]))) := rfl
set_option maxRecDepth 100000 in
theorem sh_235 : SW[235]? = some (.inr (.inl (6, [.inl (nI 8), .inl (nI 1), .inr (some (some 236))]))) := rfl
set_option maxRecDepth 100000 in
theorem sh_236 : SW[236]? = some (.inl (0, 8)) := rfl
set_option maxRecDepth 100000 in
theorem sh_237 : SW[237]? = some (.inr (.inl (6, [.inl (nI 8), .inl (nI 16), .inr (some (some 238))]))) := rfl
set_option maxRecDepth 100000 in
theorem sh_238 : SW[238]? = some (.inl (0, 128)) := rfl
set_option maxRecDepth 100000 in
theorem sh_239 : SW[239]? = some (.inr (.inl (6, [.inl (nI 8), .inl (nI 16), .inr (some (some 240))]))) := rfl
set_option maxRecDepth 100000 in
theorem sh_240 : SW[240]? = some (.inl (0, 128)) := rfl
set_option maxRecDepth 100000 in
theorem sh_241 : SW[241]? = some (.inr (.inl (6, [.inl (nI 1), .inl (nI 3), .inr (some (some 242))]))) := rfl
set_option maxRecDepth 100000 in
theorem sh_242 : SW[242]? = some (.inl (0, 3)) := rfl
set_option maxRecDepth 100000 in
theorem sh_243 : SW[243]? = some (.inr (.inl (3, [.inr (some (some 244)), .inr (some (some 245)), .inr none, .inr none, .inr none, .inr none]))) := rfl
set_option maxRecDepth 100000 in
theorem sh_244 : SW[244]? = some (.inl (1, 40)) := rfl
set_option maxRecDepth 100000 in
theorem sh_245 : SW[245]? = some (.inr (.inl (6, [.inl (nI 4), .inl (nI 2), .inr (some (some 246))]))) := rfl
set_option maxRecDepth 100000 in
theorem sh_246 : SW[246]? = some (.inl (0, 8)) := rfl
set_option maxRecDepth 100000 in
theorem sh_247 : SW[247]? = some (.inr (.inl (6, [.inl (nI 1), .inl (nI 8), .inr (some (some 248))]))) := rfl
set_option maxRecDepth 100000 in
theorem sh_248 : SW[248]? = some (.inl (0, 8)) := rfl
set_option maxRecDepth 100000 in
theorem sh_249 : SW[249]? = some (.inr (.inl (6, [.inl (nI 1), .inl (nI 12), .inr (some (some 250))]))) := rfl
set_option maxRecDepth 100000 in
theorem sh_250 : SW[250]? = some (.inl (0, 12)) := rfl
set_option maxRecDepth 100000 in
theorem sh_251 : SW[251]? = some (.inr (.inl (6, [.inl (nI 1), .inl (nI 24), .inr (some (some 252))]))) := rfl
set_option maxRecDepth 100000 in
theorem sh_252 : SW[252]? = some (.inl (0, 24)) := rfl
set_option maxRecDepth 100000 in
theorem sh_253 : SW[253]? = some (.inr (.inl (8, [.inr (some (some 254)), .inr (some (some 255)), .inr none, .inr (some (some 256)), .inr none, .inr none, .inr none, .inr none, .inr (some (some 257)), .inr none, .inr none, .inr none, .inr none, .inr none, .inr (some (some 258)), .inr (some (some 259)), .inr (some (some 260)), .inr (some (some 261)), .inr (some (some 262))]))) := rfl
set_option maxRecDepth 100000 in
theorem sh_254 : SW[254]? = some (.inl (0, 1032)) := rfl
set_option maxRecDepth 100000 in
theorem sh_255 : SW[255]? = some (.inl (0, 8256)) := rfl
set_option maxRecDepth 100000 in
theorem sh_256 : SW[256]? = some (.inl (0, 1032)) := rfl
set_option maxRecDepth 100000 in
theorem sh_257 : SW[257]? = some (.inl (1, 40)) := rfl
set_option maxRecDepth 100000 in
theorem sh_258 : SW[258]? = some (.inl (0, 4)) := rfl
set_option maxRecDepth 100000 in
theorem sh_259 : SW[259]? = some (.inl (0, 4)) := rfl
set_option maxRecDepth 100000 in
theorem sh_260 : SW[260]? = some (.inl (0, 12)) := rfl
set_option maxRecDepth 100000 in
theorem sh_261 : SW[261]? = some (.inl (0, 8)) := rfl
set_option maxRecDepth 100000 in
theorem sh_262 : SW[262]? = some (.inl (0, 24)) := rfl
set_option maxRecDepth 100000 in
theorem sh_263 : SW[263]? = some (.inl (2, 1)) := rfl
set_option maxRecDepth 100000 in
theorem sh_264 : SW[264]? = some (.inl (3, 1)) := rfl
theorem tq_3 : isTab SW 3 4 24 5 := ⟨sh_3, sh_4, by decide, by decide⟩
theorem tq_5 : isTab SW 5 6 24 4 := ⟨sh_5, sh_6, by decide, by decide⟩
theorem tq_7 : isTab SW 7 8 24 4 := ⟨sh_7, sh_8, by decide, by decide⟩
theorem tq_9 : isTab SW 9 10 24 12 := ⟨sh_9, sh_10, by decide, by decide⟩
theorem tq_11 : isTab SW 11 12 12 3 := ⟨sh_11, sh_12, by decide, by decide⟩
theorem tq_14 : isTab SW 14 15 16 7 := ⟨sh_14, sh_15, by decide, by decide⟩
theorem tq_17 : isTab SW 17 18 8 1 := ⟨sh_17, sh_18, by decide, by decide⟩
theorem tq_19 : isTab SW 19 20 8 16 := ⟨sh_19, sh_20, by decide, by decide⟩
theorem tq_21 : isTab SW 21 22 8 16 := ⟨sh_21, sh_22, by decide, by decide⟩
theorem tq_23 : isTab SW 23 24 1 3 := ⟨sh_23, sh_24, by decide, by decide⟩
theorem tq_27 : isTab SW 27 28 24 5 := ⟨sh_27, sh_28, by decide, by decide⟩
theorem tq_29 : isTab SW 29 30 24 4 := ⟨sh_29, sh_30, by decide, by decide⟩
theorem tq_31 : isTab SW 31 32 24 4 := ⟨sh_31, sh_32, by decide, by decide⟩
theorem tq_33 : isTab SW 33 34 24 12 := ⟨sh_33, sh_34, by decide, by decide⟩
theorem tq_35 : isTab SW 35 36 12 3 := ⟨sh_35, sh_36, by decide, by decide⟩
theorem tq_38 : isTab SW 38 39 16 7 := ⟨sh_38, sh_39, by decide, by decide⟩
theorem tq_41 : isTab SW 41 42 8 1 := ⟨sh_41, sh_42, by decide, by decide⟩
theorem tq_43 : isTab SW 43 44 8 16 := ⟨sh_43, sh_44, by decide, by decide⟩
theorem tq_45 : isTab SW 45 46 8 16 := ⟨sh_45, sh_46, by decide, by decide⟩
theorem tq_47 : isTab SW 47 48 1 3 := ⟨sh_47, sh_48, by decide, by decide⟩
theorem tq_53 : isTab SW 53 54 24 5 := ⟨sh_53, sh_54, by decide, by decide⟩
theorem tq_55 : isTab SW 55 56 24 4 := ⟨sh_55, sh_56, by decide, by decide⟩
theorem tq_57 : isTab SW 57 58 24 4 := ⟨sh_57, sh_58, by decide, by decide⟩
theorem tq_59 : isTab SW 59 60 24 12 := ⟨sh_59, sh_60, by decide, by decide⟩
theorem tq_61 : isTab SW 61 62 12 3 := ⟨sh_61, sh_62, by decide, by decide⟩
theorem tq_64 : isTab SW 64 65 16 7 := ⟨sh_64, sh_65, by decide, by decide⟩
theorem tq_67 : isTab SW 67 68 8 1 := ⟨sh_67, sh_68, by decide, by decide⟩
theorem tq_69 : isTab SW 69 70 8 16 := ⟨sh_69, sh_70, by decide, by decide⟩
theorem tq_71 : isTab SW 71 72 8 16 := ⟨sh_71, sh_72, by decide, by decide⟩
theorem tq_73 : isTab SW 73 74 1 3 := ⟨sh_73, sh_74, by decide, by decide⟩
theorem tq_77 : isTab SW 77 78 24 5 := ⟨sh_77, sh_78, by decide, by decide⟩
theorem tq_79 : isTab SW 79 80 24 4 := ⟨sh_79, sh_80, by decide, by decide⟩
theorem tq_81 : isTab SW 81 82 24 4 := ⟨sh_81, sh_82, by decide, by decide⟩
theorem tq_83 : isTab SW 83 84 24 12 := ⟨sh_83, sh_84, by decide, by decide⟩
theorem tq_85 : isTab SW 85 86 12 3 := ⟨sh_85, sh_86, by decide, by decide⟩
theorem tq_88 : isTab SW 88 89 16 7 := ⟨sh_88, sh_89, by decide, by decide⟩
theorem tq_91 : isTab SW 91 92 8 1 := ⟨sh_91, sh_92, by decide, by decide⟩
theorem tq_93 : isTab SW 93 94 8 16 := ⟨sh_93, sh_94, by decide, by decide⟩
theorem tq_95 : isTab SW 95 96 8 16 := ⟨sh_95, sh_96, by decide, by decide⟩
theorem tq_97 : isTab SW 97 98 1 3 := ⟨sh_97, sh_98, by decide, by decide⟩
theorem tq_101 : isTab SW 101 102 24 5 := ⟨sh_101, sh_102, by decide, by decide⟩
theorem tq_103 : isTab SW 103 104 24 4 := ⟨sh_103, sh_104, by decide, by decide⟩
theorem tq_105 : isTab SW 105 106 24 4 := ⟨sh_105, sh_106, by decide, by decide⟩
theorem tq_107 : isTab SW 107 108 24 12 := ⟨sh_107, sh_108, by decide, by decide⟩
theorem tq_109 : isTab SW 109 110 12 3 := ⟨sh_109, sh_110, by decide, by decide⟩
theorem tq_112 : isTab SW 112 113 16 7 := ⟨sh_112, sh_113, by decide, by decide⟩
theorem tq_115 : isTab SW 115 116 8 1 := ⟨sh_115, sh_116, by decide, by decide⟩
theorem tq_117 : isTab SW 117 118 8 16 := ⟨sh_117, sh_118, by decide, by decide⟩
theorem tq_119 : isTab SW 119 120 8 16 := ⟨sh_119, sh_120, by decide, by decide⟩
theorem tq_121 : isTab SW 121 122 1 3 := ⟨sh_121, sh_122, by decide, by decide⟩
theorem tq_125 : isTab SW 125 126 24 5 := ⟨sh_125, sh_126, by decide, by decide⟩
theorem tq_127 : isTab SW 127 128 24 4 := ⟨sh_127, sh_128, by decide, by decide⟩
theorem tq_129 : isTab SW 129 130 24 4 := ⟨sh_129, sh_130, by decide, by decide⟩
theorem tq_131 : isTab SW 131 132 24 12 := ⟨sh_131, sh_132, by decide, by decide⟩
theorem tq_133 : isTab SW 133 134 12 3 := ⟨sh_133, sh_134, by decide, by decide⟩
theorem tq_136 : isTab SW 136 137 16 7 := ⟨sh_136, sh_137, by decide, by decide⟩
theorem tq_139 : isTab SW 139 140 8 1 := ⟨sh_139, sh_140, by decide, by decide⟩
theorem tq_141 : isTab SW 141 142 8 16 := ⟨sh_141, sh_142, by decide, by decide⟩
theorem tq_143 : isTab SW 143 144 8 16 := ⟨sh_143, sh_144, by decide, by decide⟩
theorem tq_145 : isTab SW 145 146 1 3 := ⟨sh_145, sh_146, by decide, by decide⟩
theorem tq_149 : isTab SW 149 150 24 5 := ⟨sh_149, sh_150, by decide, by decide⟩
theorem tq_151 : isTab SW 151 152 24 4 := ⟨sh_151, sh_152, by decide, by decide⟩
theorem tq_153 : isTab SW 153 154 24 4 := ⟨sh_153, sh_154, by decide, by decide⟩
theorem tq_155 : isTab SW 155 156 24 12 := ⟨sh_155, sh_156, by decide, by decide⟩
theorem tq_157 : isTab SW 157 158 12 3 := ⟨sh_157, sh_158, by decide, by decide⟩
theorem tq_160 : isTab SW 160 161 16 7 := ⟨sh_160, sh_161, by decide, by decide⟩
theorem tq_163 : isTab SW 163 164 8 1 := ⟨sh_163, sh_164, by decide, by decide⟩
theorem tq_165 : isTab SW 165 166 8 16 := ⟨sh_165, sh_166, by decide, by decide⟩
theorem tq_167 : isTab SW 167 168 8 16 := ⟨sh_167, sh_168, by decide, by decide⟩
theorem tq_169 : isTab SW 169 170 1 3 := ⟨sh_169, sh_170, by decide, by decide⟩
theorem tq_173 : isTab SW 173 174 24 5 := ⟨sh_173, sh_174, by decide, by decide⟩
theorem tq_175 : isTab SW 175 176 24 4 := ⟨sh_175, sh_176, by decide, by decide⟩
theorem tq_177 : isTab SW 177 178 24 4 := ⟨sh_177, sh_178, by decide, by decide⟩
theorem tq_179 : isTab SW 179 180 24 12 := ⟨sh_179, sh_180, by decide, by decide⟩
theorem tq_181 : isTab SW 181 182 12 3 := ⟨sh_181, sh_182, by decide, by decide⟩
theorem tq_184 : isTab SW 184 185 16 7 := ⟨sh_184, sh_185, by decide, by decide⟩
theorem tq_187 : isTab SW 187 188 8 1 := ⟨sh_187, sh_188, by decide, by decide⟩
theorem tq_189 : isTab SW 189 190 8 16 := ⟨sh_189, sh_190, by decide, by decide⟩
theorem tq_191 : isTab SW 191 192 8 16 := ⟨sh_191, sh_192, by decide, by decide⟩
theorem tq_193 : isTab SW 193 194 1 3 := ⟨sh_193, sh_194, by decide, by decide⟩
theorem tq_197 : isTab SW 197 198 24 5 := ⟨sh_197, sh_198, by decide, by decide⟩
theorem tq_199 : isTab SW 199 200 24 4 := ⟨sh_199, sh_200, by decide, by decide⟩
theorem tq_201 : isTab SW 201 202 24 4 := ⟨sh_201, sh_202, by decide, by decide⟩
theorem tq_203 : isTab SW 203 204 24 12 := ⟨sh_203, sh_204, by decide, by decide⟩
theorem tq_205 : isTab SW 205 206 12 3 := ⟨sh_205, sh_206, by decide, by decide⟩
theorem tq_208 : isTab SW 208 209 16 7 := ⟨sh_208, sh_209, by decide, by decide⟩
theorem tq_211 : isTab SW 211 212 8 1 := ⟨sh_211, sh_212, by decide, by decide⟩
theorem tq_213 : isTab SW 213 214 8 16 := ⟨sh_213, sh_214, by decide, by decide⟩
theorem tq_215 : isTab SW 215 216 8 16 := ⟨sh_215, sh_216, by decide, by decide⟩
theorem tq_217 : isTab SW 217 218 1 3 := ⟨sh_217, sh_218, by decide, by decide⟩
theorem tq_221 : isTab SW 221 222 24 5 := ⟨sh_221, sh_222, by decide, by decide⟩
theorem tq_223 : isTab SW 223 224 24 4 := ⟨sh_223, sh_224, by decide, by decide⟩
theorem tq_225 : isTab SW 225 226 24 4 := ⟨sh_225, sh_226, by decide, by decide⟩
theorem tq_227 : isTab SW 227 228 24 12 := ⟨sh_227, sh_228, by decide, by decide⟩
theorem tq_229 : isTab SW 229 230 12 3 := ⟨sh_229, sh_230, by decide, by decide⟩
theorem tq_232 : isTab SW 232 233 16 7 := ⟨sh_232, sh_233, by decide, by decide⟩
theorem tq_235 : isTab SW 235 236 8 1 := ⟨sh_235, sh_236, by decide, by decide⟩
theorem tq_237 : isTab SW 237 238 8 16 := ⟨sh_237, sh_238, by decide, by decide⟩
theorem tq_239 : isTab SW 239 240 8 16 := ⟨sh_239, sh_240, by decide, by decide⟩
theorem tq_241 : isTab SW 241 242 1 3 := ⟨sh_241, sh_242, by decide, by decide⟩
theorem tq_245 : isTab SW 245 246 4 2 := ⟨sh_245, sh_246, by decide, by decide⟩
theorem tq_247 : isTab SW 247 248 1 8 := ⟨sh_247, sh_248, by decide, by decide⟩
theorem tq_249 : isTab SW 249 250 1 12 := ⟨sh_249, sh_250, by decide, by decide⟩
theorem tq_251 : isTab SW 251 252 1 24 := ⟨sh_251, sh_252, by decide, by decide⟩
