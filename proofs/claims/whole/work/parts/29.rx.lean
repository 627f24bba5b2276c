/-! array reads followed by a bind -/
theorem bd_if {α β : Type} {b : Bool} {a : α} {x : Option α} {f : α → Option β} (h : x = if b = true then some a else none) : x.bind f = if b = true then f a else none := by
  subst h
  by_cases h : b = true
  · rw [if_pos h, if_pos h]; rfl
  · rw [if_neg h, if_neg h]; rfl
section RX
variable {β : Type} {L : Nat} {xs : Nat → Int32} {M : ip_Mm} {i v : Int32} {w : Int64} {x : Nat}
theorem bc5_r {f : Int32 → Option β} : (ip_ia (ip_hm L xs M) 5 i).bind f = if ip_in i 24 = true then f (M.1 5 i.toNatClampNeg) else none := bd_if c5_r
theorem bc6_r {f : Int32 → Option β} : (ip_ia (ip_hm L xs M) 6 i).bind f = if ip_in i 16 = true then f (M.1 6 i.toNatClampNeg) else none := bd_if c6_r
theorem bc39_r {f : Int64 → Option β} : (ip_ja (ip_hm L xs M) 39 i).bind f = if ip_in i 54 = true then f (M.2.1 39 i.toNatClampNeg) else none := bd_if c39_r
theorem bc42_r {f : Int64 → Option β} : (ip_ja (ip_hm L xs M) 42 i).bind f = if ip_in i 66 = true then f (M.2.1 42 i.toNatClampNeg) else none := bd_if c42_r
theorem bc50_r {f : Int32 → Option β} : (ip_ia (ip_hm L xs M) 50 i).bind f = if ip_in i 6 = true then f (M.1 50 i.toNatClampNeg) else none := bd_if c50_r
theorem bc86_r {f : Int32 → Option β} : (ip_ba (ip_hm L xs M) 86 i).bind f = if ip_in i 64 = true then f (M.1 86 i.toNatClampNeg) else none := bd_if c86_r
theorem bc87_r {f : Int32 → Option β} : (ip_ia (ip_hm L xs M) 87 i).bind f = if ip_in i 19 = true then f (M.1 87 i.toNatClampNeg) else none := bd_if c87_r
theorem bc257_r {f : Int32 → Option β} : (ip_ia (ip_hm L xs M) 257 i).bind f = if ip_in i 8 = true then f (M.1 257 i.toNatClampNeg) else none := bd_if c257_r
theorem bc258_r {f : Int32 → Option β} : (ip_ia (ip_hm L xs M) 258 i).bind f = if ip_in i 160 = true then f (M.1 258 i.toNatClampNeg) else none := bd_if c258_r
theorem bc259_r {f : Int64 → Option β} : (ip_ja (ip_hm L xs M) 259 i).bind f = if ip_in i 160 = true then f (M.2.1 259 i.toNatClampNeg) else none := bd_if c259_r
theorem bc260_r {f : Int32 → Option β} : (ip_ia (ip_hm L xs M) 260 i).bind f = if ip_in i 160 = true then f (M.1 260 i.toNatClampNeg) else none := bd_if c260_r
theorem bc261_r {f : Int32 → Option β} : (ip_ia (ip_hm L xs M) 261 i).bind f = if ip_in i 24 = true then f (M.1 261 i.toNatClampNeg) else none := bd_if c261_r
theorem bc262_r {f : Int32 → Option β} : (ip_ia (ip_hm L xs M) 262 i).bind f = if ip_in i 16 = true then f (M.1 262 i.toNatClampNeg) else none := bd_if c262_r
theorem bc263_r {f : Int64 → Option β} : (ip_ja (ip_hm L xs M) 263 i).bind f = if ip_in i 48 = true then f (M.2.1 263 i.toNatClampNeg) else none := bd_if c263_r
theorem bc264_r {f : Int64 → Option β} : (ip_ja (ip_hm L xs M) 264 i).bind f = if ip_in i 6 = true then f (M.2.1 264 i.toNatClampNeg) else none := bd_if c264_r
theorem bc265_r {f : Int32 → Option β} : (ip_ia (ip_hm L xs M) 265 i).bind f = if ip_in i 8 = true then f (M.1 265 i.toNatClampNeg) else none := bd_if c265_r
theorem bc266_r {f : Int32 → Option β} : (ip_ia (ip_hm L xs M) 266 i).bind f = if ip_in i 8 = true then f (M.1 266 i.toNatClampNeg) else none := bd_if c266_r
theorem bc267_r {f : Int64 → Option β} : (ip_ja (ip_hm L xs M) 267 i).bind f = if ip_in i 8 = true then f (M.2.1 267 i.toNatClampNeg) else none := bd_if c267_r
theorem bc268_r {f : Int32 → Option β} : (ip_ia (ip_hm L xs M) 268 i).bind f = if ip_in i 8 = true then f (M.1 268 i.toNatClampNeg) else none := bd_if c268_r
theorem bc269_r {f : Int64 → Option β} : (ip_ja (ip_hm L xs M) 269 i).bind f = if ip_in i 384 = true then f (M.2.1 269 i.toNatClampNeg) else none := bd_if c269_r
theorem bc270_r {f : Int64 → Option β} : (ip_ja (ip_hm L xs M) 270 i).bind f = if ip_in i 48 = true then f (M.2.1 270 i.toNatClampNeg) else none := bd_if c270_r
theorem bc271_r {f : Int32 → Option β} : (ip_ia (ip_hm L xs M) 271 i).bind f = if ip_in i 8 = true then f (M.1 271 i.toNatClampNeg) else none := bd_if c271_r
theorem bc272_r {f : Int32 → Option β} : (ip_ia (ip_hm L xs M) 272 i).bind f = if ip_in i 8 = true then f (M.1 272 i.toNatClampNeg) else none := bd_if c272_r
theorem bc273_r {f : Int32 → Option β} : (ip_ia (ip_hm L xs M) 273 i).bind f = if ip_in i 8 = true then f (M.1 273 i.toNatClampNeg) else none := bd_if c273_r
theorem bc274_r {f : Int64 → Option β} : (ip_ja (ip_hm L xs M) 274 i).bind f = if ip_in i 8 = true then f (M.2.1 274 i.toNatClampNeg) else none := bd_if c274_r
theorem bc275_r {f : Int32 → Option β} : (ip_ia (ip_hm L xs M) 275 i).bind f = if ip_in i 8 = true then f (M.1 275 i.toNatClampNeg) else none := bd_if c275_r
theorem bc276_r {f : Int32 → Option β} : (ip_ia (ip_hm L xs M) 276 i).bind f = if ip_in i 8 = true then f (M.1 276 i.toNatClampNeg) else none := bd_if c276_r
theorem bc277_r {f : Int32 → Option β} : (ip_ia (ip_hm L xs M) 277 i).bind f = if ip_in i 5600 = true then f (M.1 277 i.toNatClampNeg) else none := bd_if c277_r
theorem bc278_r {f : Int64 → Option β} : (ip_ja (ip_hm L xs M) 278 i).bind f = if ip_in i 800 = true then f (M.2.1 278 i.toNatClampNeg) else none := bd_if c278_r
theorem bc279_r {f : Int32 → Option β} : (ip_ia (ip_hm L xs M) 279 i).bind f = if ip_in i 800 = true then f (M.1 279 i.toNatClampNeg) else none := bd_if c279_r
theorem bc280_r {f : Int32 → Option β} : (ip_ia (ip_hm L xs M) 280 i).bind f = if ip_in i 808 = true then f (M.1 280 i.toNatClampNeg) else none := bd_if c280_r
theorem bc281_r {f : Int32 → Option β} : (ip_ia (ip_hm L xs M) 281 i).bind f = if ip_in i 808 = true then f (M.1 281 i.toNatClampNeg) else none := bd_if c281_r
theorem bc282_r {f : Int32 → Option β} : (ip_ia (ip_hm L xs M) 282 i).bind f = if ip_in i 808 = true then f (M.1 282 i.toNatClampNeg) else none := bd_if c282_r
theorem bc283_r {f : Int32 → Option β} : (ip_ia (ip_hm L xs M) 283 i).bind f = if ip_in i 8 = true then f (M.1 283 i.toNatClampNeg) else none := bd_if c283_r
theorem bc284_r {f : Int32 → Option β} : (ip_ia (ip_hm L xs M) 284 i).bind f = if ip_in i 1536 = true then f (M.1 284 i.toNatClampNeg) else none := bd_if c284_r
theorem bc285_r {f : Int32 → Option β} : (ip_ia (ip_hm L xs M) 285 i).bind f = if ip_in i 8 = true then f (M.1 285 i.toNatClampNeg) else none := bd_if c285_r
theorem bc286_r {f : Int32 → Option β} : (ip_ia (ip_hm L xs M) 286 i).bind f = if ip_in i 320 = true then f (M.1 286 i.toNatClampNeg) else none := bd_if c286_r
theorem bc287_r {f : Int64 → Option β} : (ip_ja (ip_hm L xs M) 287 i).bind f = if ip_in i 320 = true then f (M.2.1 287 i.toNatClampNeg) else none := bd_if c287_r
theorem bc288_r {f : Int64 → Option β} : (ip_ja (ip_hm L xs M) 288 i).bind f = if ip_in i 320 = true then f (M.2.1 288 i.toNatClampNeg) else none := bd_if c288_r
theorem bc289_r {f : Int64 → Option β} : (ip_ja (ip_hm L xs M) 289 i).bind f = if ip_in i 48 = true then f (M.2.1 289 i.toNatClampNeg) else none := bd_if c289_r
theorem bc290_r {f : Int64 → Option β} : (ip_ja (ip_hm L xs M) 290 i).bind f = if ip_in i 48 = true then f (M.2.1 290 i.toNatClampNeg) else none := bd_if c290_r
theorem bc291_r {f : Int32 → Option β} : (ip_ia (ip_hm L xs M) 291 i).bind f = if ip_in i 7 = true then f (M.1 291 i.toNatClampNeg) else none := bd_if c291_r
theorem bc292_r {f : Int32 → Option β} : (ip_ia (ip_hm L xs M) 292 i).bind f = if ip_in i 7 = true then f (M.1 292 i.toNatClampNeg) else none := bd_if c292_r
theorem bc293_r {f : Int32 → Option β} : (ip_ia (ip_hm L xs M) 293 i).bind f = if ip_in i 7 = true then f (M.1 293 i.toNatClampNeg) else none := bd_if c293_r
theorem bc294_r {f : Int32 → Option β} : (ip_ia (ip_hm L xs M) 294 i).bind f = if ip_in i 7 = true then f (M.1 294 i.toNatClampNeg) else none := bd_if c294_r
theorem bc295_r {f : Int64 → Option β} : (ip_ja (ip_hm L xs M) 295 i).bind f = if ip_in i 7 = true then f (M.2.1 295 i.toNatClampNeg) else none := bd_if c295_r
theorem bc296_r {f : Int32 → Option β} : (ip_ia (ip_hm L xs M) 296 i).bind f = if ip_in i 7 = true then f (M.1 296 i.toNatClampNeg) else none := bd_if c296_r
theorem bc297_r {f : Int32 → Option β} : (ip_ba (ip_hm L xs M) 297 i).bind f = if ip_in i 7 = true then f (M.1 297 i.toNatClampNeg) else none := bd_if c297_r
theorem bc298_r {f : Int32 → Option β} : (ip_ia (ip_hm L xs M) 298 i).bind f = if ip_in i 7 = true then f (M.1 298 i.toNatClampNeg) else none := bd_if c298_r
theorem bc299_r {f : Int64 → Option β} : (ip_ja (ip_hm L xs M) 299 i).bind f = if ip_in i 84 = true then f (M.2.1 299 i.toNatClampNeg) else none := bd_if c299_r
theorem bc300_r {f : Int64 → Option β} : (ip_ja (ip_hm L xs M) 300 i).bind f = if ip_in i 336 = true then f (M.2.1 300 i.toNatClampNeg) else none := bd_if c300_r
theorem bc301_r {f : Int64 → Option β} : (ip_ja (ip_hm L xs M) 301 i).bind f = if ip_in i 42 = true then f (M.2.1 301 i.toNatClampNeg) else none := bd_if c301_r
theorem bc302_r {f : Int64 → Option β} : (ip_ja (ip_hm L xs M) 302 i).bind f = if ip_in i 42 = true then f (M.2.1 302 i.toNatClampNeg) else none := bd_if c302_r
theorem bc303_r {f : Int64 → Option β} : (ip_ja (ip_hm L xs M) 303 i).bind f = if ip_in i 42 = true then f (M.2.1 303 i.toNatClampNeg) else none := bd_if c303_r
theorem bc304_r {f : Int32 → Option β} : (ip_ia (ip_hm L xs M) 304 i).bind f = if ip_in i 7 = true then f (M.1 304 i.toNatClampNeg) else none := bd_if c304_r
theorem bc305_r {f : Int64 → Option β} : (ip_ja (ip_hm L xs M) 305 i).bind f = if ip_in i 48 = true then f (M.2.1 305 i.toNatClampNeg) else none := bd_if c305_r
theorem bc306_r {f : Int64 → Option β} : (ip_ja (ip_hm L xs M) 306 i).bind f = if ip_in i 6 = true then f (M.2.1 306 i.toNatClampNeg) else none := bd_if c306_r
theorem bc307_r {f : Int32 → Option β} : (ip_ia (ip_hm L xs M) 307 i).bind f = if ip_in i 100 = true then f (M.1 307 i.toNatClampNeg) else none := bd_if c307_r
theorem bc308_r {f : Int32 → Option β} : (ip_ia (ip_hm L xs M) 308 i).bind f = if ip_in i 20 = true then f (M.1 308 i.toNatClampNeg) else none := bd_if c308_r
theorem bpr_1_r (h : isPr x) {f : Int32 → Option β} : (ip_ia (ip_hm L xs M) (x + 1) i).bind f = if ip_in i 20 = true then f (M.1 (x + 1) i.toNatClampNeg) else none := bd_if (pr_1_r h)
theorem bpr_2_r (h : isPr x) {f : Int64 → Option β} : (ip_ja (ip_hm L xs M) (x + 2) i).bind f = if ip_in i 20 = true then f (M.2.1 (x + 2) i.toNatClampNeg) else none := bd_if (pr_2_r h)
theorem bpr_3_r (h : isPr x) {f : Int32 → Option β} : (ip_ia (ip_hm L xs M) (x + 3) i).bind f = if ip_in i 20 = true then f (M.1 (x + 3) i.toNatClampNeg) else none := bd_if (pr_3_r h)
theorem btr_1_r (h : isTr x) {f : Int64 → Option β} : (ip_ja (ip_hm L xs M) (x + 1) i).bind f = if ip_in i 54 = true then f (M.2.1 (x + 1) i.toNatClampNeg) else none := bd_if (tr_1_r h)
theorem btr_3_r (h : isTr x) {f : Int32 → Option β} : (ip_ia (ip_hm L xs M) (x + 3) i).bind f = if ip_in i 100 = true then f (M.1 (x + 3) i.toNatClampNeg) else none := bd_if (tr_3_r h)
theorem btr_4_r (h : isTr x) {f : Int32 → Option β} : (ip_ia (ip_hm L xs M) (x + 4) i).bind f = if ip_in i 100 = true then f (M.1 (x + 4) i.toNatClampNeg) else none := bd_if (tr_4_r h)
theorem btr_5_r (h : isTr x) {f : Int32 → Option β} : (ip_ia (ip_hm L xs M) (x + 5) i).bind f = if ip_in i 100 = true then f (M.1 (x + 5) i.toNatClampNeg) else none := bd_if (tr_5_r h)
theorem btr_6_r (h : isTr x) {f : Int32 → Option β} : (ip_ia (ip_hm L xs M) (x + 6) i).bind f = if ip_in i 100 = true then f (M.1 (x + 6) i.toNatClampNeg) else none := bd_if (tr_6_r h)
theorem btr_7_r (h : isTr x) {f : Int32 → Option β} : (ip_ia (ip_hm L xs M) (x + 7) i).bind f = if ip_in i 100 = true then f (M.1 (x + 7) i.toNatClampNeg) else none := bd_if (tr_7_r h)
theorem btr_8_r (h : isTr x) {f : Int32 → Option β} : (ip_ia (ip_hm L xs M) (x + 8) i).bind f = if ip_in i 100 = true then f (M.1 (x + 8) i.toNatClampNeg) else none := bd_if (tr_8_r h)
theorem btr_9_r (h : isTr x) {f : Int32 → Option β} : (ip_ia (ip_hm L xs M) (x + 9) i).bind f = if ip_in i 100 = true then f (M.1 (x + 9) i.toNatClampNeg) else none := bd_if (tr_9_r h)
theorem btr_10_r (h : isTr x) {f : Int64 → Option β} : (ip_ja (ip_hm L xs M) (x + 10) i).bind f = if ip_in i 100 = true then f (M.2.1 (x + 10) i.toNatClampNeg) else none := bd_if (tr_10_r h)
theorem btr_12_r (h : isTr x) {f : Int32 → Option β} : (ip_ia (ip_hm L xs M) (x + 12) i).bind f = if ip_in i 48 = true then f (M.1 (x + 12) i.toNatClampNeg) else none := bd_if (tr_12_r h)
theorem btr_13_r (h : isTr x) {f : Int32 → Option β} : (ip_ia (ip_hm L xs M) (x + 13) i).bind f = if ip_in i 48 = true then f (M.1 (x + 13) i.toNatClampNeg) else none := bd_if (tr_13_r h)
theorem btr_14_r (h : isTr x) {f : Int32 → Option β} : (ip_ia (ip_hm L xs M) (x + 14) i).bind f = if ip_in i 48 = true then f (M.1 (x + 14) i.toNatClampNeg) else none := bd_if (tr_14_r h)
theorem btr_16_r (h : isTr x) {f : Int32 → Option β} : (ip_ia (ip_hm L xs M) (x + 16) i).bind f = if ip_in i 40 = true then f (M.1 (x + 16) i.toNatClampNeg) else none := bd_if (tr_16_r h)
theorem btr_17_r (h : isTr x) {f : Int64 → Option β} : (ip_ja (ip_hm L xs M) (x + 17) i).bind f = if ip_in i 40 = true then f (M.2.1 (x + 17) i.toNatClampNeg) else none := bd_if (tr_17_r h)
theorem btr_18_r (h : isTr x) {f : Int64 → Option β} : (ip_ja (ip_hm L xs M) (x + 18) i).bind f = if ip_in i 40 = true then f (M.2.1 (x + 18) i.toNatClampNeg) else none := bd_if (tr_18_r h)
theorem btr_19_r (h : isTr x) {f : Int64 → Option β} : (ip_ja (ip_hm L xs M) (x + 19) i).bind f = if ip_in i 6 = true then f (M.2.1 (x + 19) i.toNatClampNeg) else none := bd_if (tr_19_r h)
theorem btr_20_r (h : isTr x) {f : Int64 → Option β} : (ip_ja (ip_hm L xs M) (x + 20) i).bind f = if ip_in i 6 = true then f (M.2.1 (x + 20) i.toNatClampNeg) else none := bd_if (tr_20_r h)
theorem bfr_1_r (h : isFr x) {f : Int64 → Option β} : (ip_ja (ip_hm L xs M) (x + 1) i).bind f = if ip_in i 12 = true then f (M.2.1 (x + 1) i.toNatClampNeg) else none := bd_if (fr_1_r h)
theorem bsv_0_r (h : isSv x) {f : Int64 → Option β} : (ip_ja (ip_hm L xs M) x i).bind f = if ip_in i 66 = true then f (M.2.1 x i.toNatClampNeg) else none := bd_if (sv_0_r h)
end RX
