def gR0 : List Cond := [Cond.classLink RL 7 RX11, Cond.instantiable RX11 17, Cond.initialized RX11, Cond.classLink RL 10 RX12, Cond.instantiable RX12 107, Cond.initialized RX12, Cond.constantLong RL 41 (4294967295), Cond.methodLink RL 9 yX11_init, Cond.instanceMethod yX11_init, Cond.code yX11_init cX11_init 2 none, Cond.methodLink RX11 1 objectInit, Cond.instanceMethod objectInit, Cond.code objectInit ⟨#[0xb1]⟩ 1 none, Cond.classLink RX11 9 RX7, Cond.fieldLink RX11 11 "WirelessCell" "nodes" "[LWirelessCell$Node;", Cond.classLink RX11 15 RX4, Cond.fieldLink RX11 17 "WirelessCell" "bySelf" "[LWirelessCell$Link;", Cond.fieldLink RX11 21 "WirelessCell" "byAp" "[LWirelessCell$Link;", Cond.classLink RX11 24 RX5, Cond.instantiable RX5 18, Cond.initialized RX5, Cond.fieldLink RX11 27 "WirelessCell" "medium" "LWirelessCell$Medium;", Cond.classLink RX11 31 RX8, Cond.instantiable RX8 4]
def gR1 : List Cond := [Cond.initialized RX8, Cond.fieldLink RX11 34 "WirelessCell" "puts" "LWirelessCell$Puts;", Cond.classLink RX11 38 RX1, Cond.instantiable RX1 3, Cond.initialized RX1, Cond.fieldLink RX11 41 "WirelessCell" "draws" "LWirelessCell$Draws;", Cond.classLink RX11 45 RX10, Cond.instantiable RX10 6, Cond.initialized RX10, Cond.fieldLink RX11 48 "WirelessCell" "sha" "LWirelessCell$Sha;", Cond.classLink RX11 52 RX0, Cond.instantiable RX0 5, Cond.initialized RX0, Cond.fieldLink RX11 55 "WirelessCell" "ccm" "LWirelessCell$Ccm;", Cond.arrayClass .int, Cond.fieldLink RX11 59 "WirelessCell" "tape" "[I", Cond.fieldLink RX11 63 "WirelessCell" "ends" "[I", Cond.fieldLink RX11 66 "WirelessCell" "partSize" "I", Cond.fieldLink RX11 70 "WirelessCell" "tryLimit" "I", Cond.fieldLink RX11 73 "WirelessCell" "ackFrame" "[I", Cond.fieldLink RX11 76 "WirelessCell" "bodyAsTold" "[I", Cond.instantiable RX7 19, Cond.initialized RX7, Cond.instantiable RX4 14]
def gR2 : List Cond := [Cond.initialized RX4, Cond.instanceMethod yX5_init, Cond.code yX5_init cX5_init 1 none, Cond.methodLink RX5 3 objectInit, Cond.classLink RX5 11 "[[I", Cond.fieldLink RX5 13 "WirelessCell$Medium" "rows" "[[I", Cond.fieldLink RX5 16 "WirelessCell$Medium" "lengths" "[I", Cond.fieldLink RX5 20 "WirelessCell$Medium" "senders" "[I", Cond.fieldLink RX5 23 "WirelessCell$Medium" "firstSlots" "[I", Cond.fieldLink RX5 26 "WirelessCell$Medium" "lastSlots" "[I", Cond.arrayClass .boolean, Cond.fieldLink RX5 29 "WirelessCell$Medium" "spoiled" "[Z", Cond.fieldLink RX5 33 "WirelessCell$Medium" "newest" "I", Cond.fieldLink RX5 37 "WirelessCell$Medium" "endings" "[I", Cond.fieldLink RX5 40 "WirelessCell$Medium" "lastBusySlot" "I", Cond.fieldLink RX5 43 "WirelessCell$Medium" "noiseFrom" "[I", Cond.fieldLink RX5 46 "WirelessCell$Medium" "noiseTo" "[I", Cond.instanceMethod yX8_init, Cond.code yX8_init cX8_init 1 none, Cond.methodLink RX8 3 objectInit, Cond.classLink RX8 11 "[[I", Cond.fieldLink RX8 13 "WirelessCell$Puts" "rows" "[[I", Cond.fieldLink RX8 16 "WirelessCell$Puts" "lengths" "[I", Cond.fieldLink RX8 20 "WirelessCell$Puts" "slots" "[I"]
def gR3 : List Cond := [Cond.instanceMethod yX1_init, Cond.code yX1_init cX1_init 1 none, Cond.methodLink RX1 1 objectInit, Cond.fieldLink RX1 9 "WirelessCell$Draws" "values" "[I", Cond.instanceMethod yX10_init, Cond.code yX10_init cX10_init 1 none, Cond.methodLink RX10 3 objectInit, Cond.fieldLink RX10 11 "WirelessCell$Sha" "digest" "[I", Cond.fieldLink RX10 15 "WirelessCell$Sha" "ptk" "[I", Cond.fieldLink RX10 18 "WirelessCell$Sha" "seed" "[I", Cond.fieldLink RX10 21 "WirelessCell$Sha" "text" "[I", Cond.fieldLink RX10 24 "WirelessCell$Sha" "words" "[I", Cond.fieldLink RX10 27 "WirelessCell$Sha" "state" "[I", Cond.instanceMethod yX0_init, Cond.code yX0_init cX0_init 1 none, Cond.methodLink RX0 3 objectInit, Cond.fieldLink RX0 9 "WirelessCell$Ccm" "plain" "[I", Cond.fieldLink RX0 15 "WirelessCell$Ccm" "mac" "[I", Cond.fieldLink RX0 18 "WirelessCell$Ccm" "stream" "[I", Cond.fieldLink RX0 21 "WirelessCell$Ccm" "turned" "[I", Cond.fieldLink RX0 24 "WirelessCell$Ccm" "roundKeys" "[I", Cond.methodLink RX11 79 yX7_init, Cond.instanceMethod yX7_init, Cond.code yX7_init cX7_init 2 none]
def gR4 : List Cond := [Cond.methodLink RX7 3 objectInit, Cond.fieldLink RX7 9 "WirelessCell$Node" "nonce" "[I", Cond.classLink RX7 15 RX9, Cond.instantiable RX9 4, Cond.initialized RX9, Cond.fieldLink RX7 18 "WirelessCell$Node" "queue" "LWirelessCell$Queue;", Cond.classLink RX7 22 RX3, Cond.instantiable RX3 4, Cond.initialized RX3, Cond.fieldLink RX7 25 "WirelessCell$Node" "inbox" "LWirelessCell$Inbox;", Cond.fieldLink RX7 29 "WirelessCell$Node" "latest" "[I", Cond.fieldLink RX7 32 "WirelessCell$Node" "cw" "I", Cond.fieldLink RX7 36 "WirelessCell$Node" "dueSlot" "I", Cond.fieldLink RX7 39 "WirelessCell$Node" "ackTo" "[I", Cond.fieldLink RX7 42 "WirelessCell$Node" "lastSendSlot" "I", Cond.fieldLink RX7 45 "WirelessCell$Node" "waitsFrom" "I", Cond.fieldLink RX7 48 "WirelessCell$Node" "frame" "[I", Cond.fieldLink RX7 51 "WirelessCell$Node" "number" "I", Cond.methodLink RX7 17 yX9_init, Cond.instanceMethod yX9_init, Cond.code yX9_init cX9_init 2 none, Cond.methodLink RX9 1 objectInit, Cond.classLink RX9 9 RX6, Cond.fieldLink RX9 11 "WirelessCell$Queue" "rows" "[LWirelessCell$Message;"]
def gR5 : List Cond := [Cond.instantiable RX6 9, Cond.initialized RX6, Cond.instanceMethod yX6_init, Cond.code yX6_init cX6_init 1 none, Cond.methodLink RX6 3 objectInit, Cond.fieldLink RX6 9 "WirelessCell$Message" "bytes" "[I", Cond.instanceMethod yX3_init, Cond.code yX3_init cX3_init 1 none, Cond.methodLink RX3 3 objectInit, Cond.classLink RX3 11 "[[I", Cond.fieldLink RX3 13 "WirelessCell$Inbox" "said" "[[I", Cond.fieldLink RX3 16 "WirelessCell$Inbox" "lengths" "[I", Cond.fieldLink RX3 20 "WirelessCell$Inbox" "speakers" "[I", Cond.methodLink RX7 54 yJ7_fill_53178, Cond.static yJ7_fill_53178, Cond.initialized RJ7, Cond.code yJ7_fill_53178 cJ7_fill_53178 4 none, Cond.instanceMethod yX4_init, Cond.code yX4_init cX4_init 1 none, Cond.methodLink RX4 3 objectInit, Cond.fieldLink RX4 9 "WirelessCell$Link" "state" "I", Cond.fieldLink RX4 15 "WirelessCell$Link" "secret" "[I", Cond.fieldLink RX4 21 "WirelessCell$Link" "tried" "[I", Cond.fieldLink RX4 24 "WirelessCell$Link" "triedNonce" "[I"]
def gR6 : List Cond := [Cond.fieldLink RX4 27 "WirelessCell$Link" "tk" "[I", Cond.fieldLink RX4 30 "WirelessCell$Link" "nextToSeal" "J", Cond.fieldLink RX4 34 "WirelessCell$Link" "bytes" "[I", Cond.methodLink RL 12 yX12_init, Cond.instanceMethod yX12_init, Cond.code yX12_init cX12_init 2 none, Cond.methodLink RX12 1 objectInit, Cond.fieldLink RX12 7 "WirelessCellModel" "h" "[I", Cond.fieldLink RX12 13 "WirelessCellModel" "w" "[I", Cond.fieldLink RX12 16 "WirelessCellModel" "block" "[I", Cond.fieldLink RX12 19 "WirelessCellModel" "digest" "[I", Cond.fieldLink RX12 22 "WirelessCellModel" "macKey" "[I", Cond.fieldLink RX12 25 "WirelessCellModel" "inner" "[I", Cond.fieldLink RX12 28 "WirelessCellModel" "box" "[I", Cond.fieldLink RX12 31 "WirelessCellModel" "schedule" "[I", Cond.fieldLink RX12 34 "WirelessCellModel" "cells" "[I", Cond.fieldLink RX12 37 "WirelessCellModel" "moved" "[I", Cond.fieldLink RX12 40 "WirelessCellModel" "number" "[I", Cond.fieldLink RX12 43 "WirelessCellModel" "chain" "[I", Cond.fieldLink RX12 46 "WirelessCellModel" "stream" "[I", Cond.fieldLink RX12 49 "WirelessCellModel" "tag" "[I", Cond.fieldLink RX12 52 "WirelessCellModel" "tape" "[I", Cond.fieldLink RX12 55 "WirelessCellModel" "secrets" "[I", Cond.fieldLink RX12 58 "WirelessCellModel" "nonces" "[I"]
def gR7 : List Cond := [Cond.fieldLink RX12 61 "WirelessCellModel" "state" "[I", Cond.fieldLink RX12 64 "WirelessCellModel" "asState" "[I", Cond.fieldLink RX12 67 "WirelessCellModel" "asked" "[Z", Cond.fieldLink RX12 71 "WirelessCellModel" "tk" "[I", Cond.fieldLink RX12 74 "WirelessCellModel" "hasKey" "[Z", Cond.fieldLink RX12 77 "WirelessCellModel" "tried" "[I", Cond.fieldLink RX12 80 "WirelessCellModel" "hasTried" "[Z", Cond.fieldLink RX12 83 "WirelessCellModel" "triedNonce" "[I", Cond.arrayClass .long, Cond.fieldLink RX12 86 "WirelessCellModel" "pnTaken" "[J", Cond.fieldLink RX12 90 "WirelessCellModel" "pnNext" "[J", Cond.fieldLink RX12 93 "WirelessCellModel" "begun" "[Z", Cond.fieldLink RX12 96 "WirelessCellModel" "begunSeq" "[I", Cond.fieldLink RX12 99 "WirelessCellModel" "begunNext" "[I", Cond.fieldLink RX12 102 "WirelessCellModel" "begunLen" "[I", Cond.fieldLink RX12 105 "WirelessCellModel" "begunBytes" "[I", Cond.fieldLink RX12 108 "WirelessCellModel" "fresh" "[I", Cond.fieldLink RX12 111 "WirelessCellModel" "qMany" "[I", Cond.fieldLink RX12 114 "WirelessCellModel" "qType" "[I", Cond.fieldLink RX12 117 "WirelessCellModel" "qTo" "[I", Cond.fieldLink RX12 120 "WirelessCellModel" "qThird" "[I", Cond.fieldLink RX12 123 "WirelessCellModel" "qSeq" "[I", Cond.fieldLink RX12 126 "WirelessCellModel" "qSize" "[I", Cond.fieldLink RX12 129 "WirelessCellModel" "qLen" "[I"]
def gR8 : List Cond := [Cond.fieldLink RX12 132 "WirelessCellModel" "qSub" "[I", Cond.fieldLink RX12 135 "WirelessCellModel" "qBytes" "[I", Cond.fieldLink RX12 138 "WirelessCellModel" "part" "[I", Cond.fieldLink RX12 141 "WirelessCellModel" "isMade" "[Z", Cond.fieldLink RX12 144 "WirelessCellModel" "frames" "[I", Cond.fieldLink RX12 147 "WirelessCellModel" "frameLen" "[I", Cond.fieldLink RX12 150 "WirelessCellModel" "seq" "[I", Cond.fieldLink RX12 153 "WirelessCellModel" "backoff" "[I", Cond.fieldLink RX12 156 "WirelessCellModel" "cw" "[I", Cond.fieldLink RX12 159 "WirelessCellModel" "tries" "[I", Cond.fieldLink RX12 162 "WirelessCellModel" "sizeNow" "I", Cond.fieldLink RX12 166 "WirelessCellModel" "limit" "I", Cond.fieldLink RX12 169 "WirelessCellModel" "draws" "[I", Cond.fieldLink RX12 172 "WirelessCellModel" "ends" "[I", Cond.fieldLink RX12 175 "WirelessCellModel" "message" "[I", Cond.fieldLink RX12 178 "WirelessCellModel" "quiet" "I", Cond.fieldLink RX12 181 "WirelessCellModel" "sending" "[I", Cond.fieldLink RX12 184 "WirelessCellModel" "waits" "[Z", Cond.fieldLink RX12 187 "WirelessCellModel" "waitsFrom" "[I", Cond.fieldLink RX12 190 "WirelessCellModel" "due" "[I", Cond.fieldLink RX12 193 "WirelessCellModel" "dueAt" "[I", Cond.fieldLink RX12 196 "WirelessCellModel" "dueFor" "[J", Cond.fieldLink RX12 199 "WirelessCellModel" "vSender" "[I", Cond.fieldLink RX12 202 "WirelessCellModel" "vLast" "[I"]
def gR9 : List Cond := [Cond.fieldLink RX12 205 "WirelessCellModel" "vLen" "[I", Cond.fieldLink RX12 208 "WirelessCellModel" "vClean" "[Z", Cond.fieldLink RX12 211 "WirelessCellModel" "vNumber" "[I", Cond.constant RX12 214 (90000), Cond.fieldLink RX12 215 "WirelessCellModel" "vBytes" "[I", Cond.fieldLink RX12 218 "WirelessCellModel" "hSender" "[I", Cond.fieldLink RX12 221 "WirelessCellModel" "hFirst" "[I", Cond.fieldLink RX12 224 "WirelessCellModel" "hLen" "[I", Cond.fieldLink RX12 227 "WirelessCellModel" "hSlots" "[I", Cond.fieldLink RX12 230 "WirelessCellModel" "hClean" "[I", Cond.fieldLink RX12 233 "WirelessCellModel" "hBytes" "[I", Cond.fieldLink RX12 236 "WirelessCellModel" "noiseFrom" "[I", Cond.fieldLink RX12 239 "WirelessCellModel" "noiseTo" "[I", Cond.fieldLink RX12 242 "WirelessCellModel" "pSlot" "[I", Cond.fieldLink RX12 245 "WirelessCellModel" "pLen" "[I", Cond.fieldLink RX12 248 "WirelessCellModel" "pBytes" "[I", Cond.fieldLink RX12 251 "WirelessCellModel" "answer" "[I", Cond.fieldLink RX12 254 "WirelessCellModel" "seen" "[I", Cond.fieldLink RX12 257 "WirelessCellModel" "latest" "[I", Cond.fieldLink RX12 260 "WirelessCellModel" "hasLatest" "[Z", Cond.fieldLink RX12 263 "WirelessCellModel" "dropped" "[I", Cond.fieldLink RX12 266 "WirelessCellModel" "unsealed" "[I", Cond.fieldLink RX12 269 "WirelessCellModel" "plain" "[I", Cond.fieldLink RX12 272 "WirelessCellModel" "deliveredMany" "[I"]
def gR10 : List Cond := [Cond.fieldLink RX12 275 "WirelessCellModel" "deliveredFrom" "[I", Cond.fieldLink RX12 278 "WirelessCellModel" "deliveredLen" "[I", Cond.fieldLink RX12 281 "WirelessCellModel" "deliveredBytes" "[I", Cond.methodLink RX12 284 yX12_findBoxes, Cond.instanceMethod yX12_findBoxes, Cond.selects RX12 yX12_findBoxes yX12_findBoxes, Cond.code yX12_findBoxes cX12_findBoxes 4 none, Cond.methodLink RX12 326 yX12_product, Cond.static yX12_product, Cond.code yX12_product cX12_product 5 (some .int), Cond.methodLink RX12 322 yX12_twice, Cond.static yX12_twice, Cond.code yX12_twice cX12_twice 2 (some .int), Cond.methodLink RX12 329 yX12_turn, Cond.static yX12_turn, Cond.code yX12_turn cX12_turn 2 (some .int), Cond.methodLink RL 13 yX11_feed, Cond.instanceMethod yX11_feed, Cond.selects RX11 yX11_feed yX11_feed, Cond.code yX11_feed cX11_feed 6 (some .int), Cond.fieldLink RX11 83 "WirelessCell" "tapeLength" "I", Cond.methodLink RX11 86 yX11_feedNumber, Cond.instanceMethod yX11_feedNumber, Cond.selects RX11 yX11_feedNumber yX11_feedNumber]
def gR11 : List Cond := [Cond.code yX11_feedNumber cX11_feedNumber 2 none, Cond.methodLink RX11 89 yX2_writeHighestFirst, Cond.static yX2_writeHighestFirst, Cond.initialized RX2, Cond.code yX2_writeHighestFirst cX2_writeHighestFirst 6 none, Cond.methodLink RL 17 yX12_feed, Cond.instanceMethod yX12_feed, Cond.selects RX12 yX12_feed yX12_feed, Cond.code yX12_feed cX12_feed 6 (some .int), Cond.fieldLink RX12 287 "WirelessCellModel" "thrown" "I", Cond.fieldLink RX12 346 "WirelessCellModel" "taped" "I", Cond.methodLink RX12 349 yX12_four, Cond.instanceMethod yX12_four, Cond.selects RX12 yX12_four yX12_four, Cond.code yX12_four cX12_four 3 none, Cond.methodLink RL 18 yX11_end, Cond.instanceMethod yX11_end, Cond.selects RX11 yX11_end yX11_end, Cond.code yX11_end cX11_end 2 (some .int), Cond.methodLink RL 22 yX12_end, Cond.instanceMethod yX12_end, Cond.selects RX12 yX12_end yX12_end, Cond.code yX12_end cX12_end 2 (some .int), Cond.methodLink RL 23 yX11_alter]
def gR12 : List Cond := [Cond.instanceMethod yX11_alter, Cond.selects RX11 yX11_alter yX11_alter, Cond.code yX11_alter cX11_alter 3 (some .int), Cond.methodLink RL 27 yX12_alter, Cond.instanceMethod yX12_alter, Cond.selects RX12 yX12_alter yX12_alter, Cond.code yX12_alter cX12_alter 3 (some .int), Cond.constantLong RX12 352 (255), Cond.methodLink RX12 354 yX12_in, Cond.static yX12_in, Cond.code yX12_in cX12_in 6 (some .boolean), Cond.methodLink RL 28 yX11_check, Cond.instanceMethod yX11_check, Cond.selects RX11 yX11_check yX11_check, Cond.code yX11_check cX11_check 1 (some .int), Cond.methodLink RX11 95 yX2_writeFcs, Cond.static yX2_writeFcs, Cond.code yX2_writeFcs cX2_writeFcs 4 none, Cond.methodLink RX2 15 yX2_crcOf, Cond.static yX2_crcOf, Cond.code yX2_crcOf cX2_crcOf 4 (some .int), Cond.fieldLink RX2 11 "WirelessCell$Frames" "CRC" "[I", Cond.methodLink RL 32 yX12_check, Cond.instanceMethod yX12_check]
def gR13 : List Cond := [Cond.selects RX12 yX12_check yX12_check, Cond.code yX12_check cX12_check 3 (some .int), Cond.methodLink RX12 358 yX12_crc, Cond.static yX12_crc, Cond.code yX12_crc cX12_crc 6 (some .int), Cond.constant RX12 345 (-306674912), Cond.methodLink RL 33 yX11_copy, Cond.instanceMethod yX11_copy, Cond.selects RX11 yX11_copy yX11_copy, Cond.code yX11_copy cX11_copy 3 (some .int), Cond.fieldLink RX11 103 "WirelessCell$Medium" "lengths" "[I", Cond.fieldLink RX11 106 "WirelessCell$Medium" "rows" "[[I", Cond.methodLink RX11 110 arraycopyName, Cond.native arraycopyName, Cond.static arraycopyName, Cond.initialized "java/lang/System", Cond.methodLink RX11 99 yX5_rowOf, Cond.instanceMethod yX5_rowOf, Cond.selects RX5 yX5_rowOf yX5_rowOf, Cond.code yX5_rowOf cX5_rowOf 2 (some .int), Cond.fieldLink RX5 62 "WirelessCell$Medium" "kept" "I", Cond.methodLink RX5 93 yJ9_floorMod_7cf53, Cond.static yJ9_floorMod_7cf53, Cond.initialized RJ9]
def gR14 : List Cond := [Cond.code yJ9_floorMod_7cf53 cJ9_floorMod_7cf53 3 (some .int), Cond.methodLink RL 36 yX12_copy, Cond.instanceMethod yX12_copy, Cond.selects RX12 yX12_copy yX12_copy, Cond.code yX12_copy cX12_copy 4 (some .int), Cond.fieldLink RX12 457 "WirelessCellModel" "began" "I", Cond.methodLink RX12 596 yX12_isKept, Cond.instanceMethod yX12_isKept, Cond.selects RX12 yX12_isKept yX12_isKept, Cond.code yX12_isKept cX12_isKept 2 (some .boolean), Cond.methodLink RL 37 yX11_tape, Cond.instanceMethod yX11_tape, Cond.selects RX11 yX11_tape yX11_tape, Cond.code yX11_tape cX11_tape 2 (some .int), Cond.methodLink RL 40 yX12_tape, Cond.instanceMethod yX12_tape, Cond.selects RX12 yX12_tape yX12_tape, Cond.code yX12_tape cX12_tape 2 (some .int), Cond.methodLink RL 43 yX11_secret, Cond.instanceMethod yX11_secret, Cond.selects RX11 yX11_secret yX11_secret, Cond.code yX11_secret cX11_secret 10 (some .int), Cond.fieldLink RX11 120 "WirelessCell$Link" "secret" "[I", Cond.methodLink RX11 116 yX11_isStation]
def gR15 : List Cond := [Cond.static yX11_isStation, Cond.code yX11_isStation cX11_isStation 1 (some .boolean), Cond.methodLink RX11 123 yX11_fillByLongs, Cond.static yX11_fillByLongs, Cond.code yX11_fillByLongs cX11_fillByLongs 9 none, Cond.methodLink RL 47 yX12_secret, Cond.instanceMethod yX12_secret, Cond.selects RX12 yX12_secret yX12_secret, Cond.code yX12_secret cX12_secret 10 (some .int), Cond.methodLink RX12 361 yX12_isStation, Cond.static yX12_isStation, Cond.code yX12_isStation cX12_isStation 1 (some .boolean), Cond.constantLong RX12 310 (8), Cond.methodLink RX12 365 yX12_putLongs, Cond.static yX12_putLongs, Cond.code yX12_putLongs cX12_putLongs 13 none, Cond.methodLink RL 48 yX11_known, Cond.instanceMethod yX11_known, Cond.selects RX11 yX11_known yX11_known, Cond.code yX11_known cX11_known 10 (some .int), Cond.methodLink RL 51 yX12_known, Cond.instanceMethod yX12_known, Cond.selects RX12 yX12_known yX12_known, Cond.code yX12_known cX12_known 10 (some .int)]
def gR16 : List Cond := [Cond.methodLink RL 52 yX11_nonce, Cond.instanceMethod yX11_nonce, Cond.selects RX11 yX11_nonce yX11_nonce, Cond.code yX11_nonce cX11_nonce 10 (some .int), Cond.fieldLink RX11 130 "WirelessCell$Node" "nonce" "[I", Cond.methodLink RX11 127 yX11_isNode, Cond.static yX11_isNode, Cond.code yX11_isNode cX11_isNode 1 (some .boolean), Cond.methodLink RL 55 yX12_nonce, Cond.instanceMethod yX12_nonce, Cond.selects RX12 yX12_nonce yX12_nonce, Cond.code yX12_nonce cX12_nonce 10 (some .int), Cond.methodLink RX12 369 yX12_isNode, Cond.static yX12_isNode, Cond.code yX12_isNode cX12_isNode 1 (some .boolean), Cond.methodLink RL 56 yX11_size, Cond.instanceMethod yX11_size, Cond.selects RX11 yX11_size yX11_size, Cond.code yX11_size cX11_size 3 (some .int), Cond.methodLink RL 59 yX12_size, Cond.instanceMethod yX12_size, Cond.selects RX12 yX12_size yX12_size, Cond.code yX12_size cX12_size 3 (some .int), Cond.constantLong RX12 599 (16)]
def gR17 : List Cond := [Cond.methodLink RL 60 yX11_limit, Cond.instanceMethod yX11_limit, Cond.selects RX11 yX11_limit yX11_limit, Cond.code yX11_limit cX11_limit 3 (some .int), Cond.methodLink RL 63 yX12_limit, Cond.instanceMethod yX12_limit, Cond.selects RX12 yX12_limit yX12_limit, Cond.code yX12_limit cX12_limit 3 (some .int), Cond.constantLong RX12 601 (15), Cond.methodLink RL 64 yX11_draw, Cond.instanceMethod yX11_draw, Cond.selects RX11 yX11_draw yX11_draw, Cond.code yX11_draw cX11_draw 2 (some .int), Cond.fieldLink RX11 136 "WirelessCell$Draws" "left" "I", Cond.methodLink RX11 133 yX1_addLast, Cond.instanceMethod yX1_addLast, Cond.selects RX1 yX1_addLast yX1_addLast, Cond.code yX1_addLast cX1_addLast 2 (some .boolean), Cond.fieldLink RX1 13 "WirelessCell$Draws" "left" "I", Cond.fieldLink RX1 17 "WirelessCell$Draws" "first" "I", Cond.methodLink RL 67 yX12_draw, Cond.instanceMethod yX12_draw, Cond.selects RX12 yX12_draw yX12_draw, Cond.code yX12_draw cX12_draw 3 (some .int)]
def gR18 : List Cond := [Cond.fieldLink RX12 401 "WirelessCellModel" "drawTo" "I", Cond.fieldLink RX12 398 "WirelessCellModel" "drawFrom" "I", Cond.constantLong RX12 603 (127), Cond.methodLink RL 68 yX11_noise, Cond.instanceMethod yX11_noise, Cond.selects RX11 yX11_noise yX11_noise, Cond.code yX11_noise cX11_noise 3 (some .int), Cond.fieldLink RX11 139 "WirelessCell$Medium" "slot" "I", Cond.fieldLink RX11 146 "WirelessCell$Medium" "noises" "I", Cond.methodLink RX11 142 yX5_addNoise, Cond.instanceMethod yX5_addNoise, Cond.selects RX5 yX5_addNoise yX5_addNoise, Cond.code yX5_addNoise cX5_addNoise 3 (some .boolean), Cond.fieldLink RX5 49 "WirelessCell$Medium" "noises" "I", Cond.methodLink RL 71 yX12_noise, Cond.instanceMethod yX12_noise, Cond.selects RX12 yX12_noise yX12_noise, Cond.code yX12_noise cX12_noise 3 (some .int), Cond.fieldLink RX12 479 "WirelessCellModel" "noises" "I", Cond.fieldLink RX12 454 "WirelessCellModel" "slot" "I", Cond.constantLong RX12 605 (2000), Cond.methodLink RL 72 yX11_put, Cond.instanceMethod yX11_put, Cond.selects RX11 yX11_put yX11_put]
def gR19 : List Cond := [Cond.code yX11_put cX11_put 2 (some .int), Cond.fieldLink RX11 152 "WirelessCell$Puts" "used" "I", Cond.methodLink RX11 149 yX8_addLast, Cond.instanceMethod yX8_addLast, Cond.selects RX8 yX8_addLast yX8_addLast, Cond.code yX8_addLast cX8_addLast 4 (some .boolean), Cond.fieldLink RX8 23 "WirelessCell$Puts" "used" "I", Cond.methodLink RX8 27 arraycopyName, Cond.methodLink RL 75 yX12_put, Cond.instanceMethod yX12_put, Cond.selects RX12 yX12_put yX12_put, Cond.code yX12_put cX12_put 3 (some .int), Cond.fieldLink RX12 476 "WirelessCellModel" "putMany" "I", Cond.methodLink RL 76 yX11_join, Cond.instanceMethod yX11_join, Cond.selects RX11 yX11_join yX11_join, Cond.code yX11_join cX11_join 2 (some .int), Cond.fieldLink RX11 158 "WirelessCell$Link" "asked" "Z", Cond.methodLink RX11 155 yX4_loseKey, Cond.instanceMethod yX4_loseKey, Cond.selects RX4 yX4_loseKey yX4_loseKey, Cond.code yX4_loseKey cX4_loseKey 2 none, Cond.fieldLink RX4 37 "WirelessCell$Link" "hasTried" "Z", Cond.fieldLink RX4 41 "WirelessCell$Link" "begun" "Z"]
def gR20 : List Cond := [Cond.methodLink RX11 162 yX11_queueBody, Cond.instanceMethod yX11_queueBody, Cond.selects RX11 yX11_queueBody yX11_queueBody, Cond.code yX11_queueBody cX11_queueBody 6 none, Cond.fieldLink RX11 195 "WirelessCell$Message" "bytes" "[I", Cond.fieldLink RX11 202 "WirelessCell$Message" "length" "I", Cond.methodLink RX11 180 yX11_openMessage, Cond.instanceMethod yX11_openMessage, Cond.selects RX11 yX11_openMessage yX11_openMessage, Cond.code yX11_openMessage cX11_openMessage 7 (some (.object "WirelessCell$Message")), Cond.fieldLink RX11 247 "WirelessCell$Node" "queue" "LWirelessCell$Queue;", Cond.fieldLink RX11 251 "WirelessCell$Queue" "used" "I", Cond.fieldLink RX11 304 "WirelessCell$Message" "kind" "I", Cond.fieldLink RX11 307 "WirelessCell$Message" "receiver" "I", Cond.fieldLink RX11 189 "WirelessCell$Message" "third" "I", Cond.fieldLink RX11 184 "WirelessCell$Message" "sealed" "Z", Cond.fieldLink RX11 310 "WirelessCell$Message" "cut" "I", Cond.fieldLink RX11 192 "WirelessCell$Message" "submission" "I", Cond.fieldLink RX11 257 "WirelessCell$Node" "cw" "I", Cond.fieldLink RX11 254 "WirelessCell$Node" "backoff" "I", Cond.methodLink RX11 301 yX9_addLast, Cond.instanceMethod yX9_addLast, Cond.selects RX9 yX9_addLast yX9_addLast, Cond.code yX9_addLast cX9_addLast 2 (some (.object "WirelessCell$Message"))]
def gR21 : List Cond := [Cond.fieldLink RX9 20 "WirelessCell$Queue" "used" "I", Cond.fieldLink RX9 16 "WirelessCell$Queue" "firstRow" "I", Cond.fieldLink RX9 23 "WirelessCell$Queue" "nextSequence" "I", Cond.fieldLink RX9 26 "WirelessCell$Message" "sequence" "I", Cond.methodLink RX11 313 yX1_takeFirst, Cond.instanceMethod yX1_takeFirst, Cond.selects RX1 yX1_takeFirst yX1_takeFirst, Cond.code yX1_takeFirst cX1_takeFirst 2 (some .int), Cond.methodLink RX11 316 yX2_writeBody, Cond.static yX2_writeBody, Cond.code yX2_writeBody cX2_writeBody 3 (some .int), Cond.methodLink RX2 26 yJ7_fill_fda19, Cond.static yJ7_fill_fda19, Cond.code yJ7_fill_fda19 cJ7_fill_fda19 5 none, Cond.methodLink RJ7 13 yJ7_rangeCheck_23922, Cond.static yJ7_rangeCheck_23922, Cond.code yJ7_rangeCheck_23922 cJ7_rangeCheck_23922 3 none, Cond.methodLink RL 79 yX12_join, Cond.instanceMethod yX12_join, Cond.selects RX12 yX12_join yX12_join, Cond.code yX12_join cX12_join 3 (some .int), Cond.fieldLink RX12 404 "WirelessCellModel" "length" "I", Cond.methodLink RX12 548 yX12_unkey, Cond.instanceMethod yX12_unkey]
def gR22 : List Cond := [Cond.selects RX12 yX12_unkey yX12_unkey, Cond.code yX12_unkey cX12_unkey 2 none, Cond.methodLink RX12 534 yX12_add, Cond.instanceMethod yX12_add, Cond.selects RX12 yX12_add yX12_add, Cond.code yX12_add cX12_add 2 none, Cond.methodLink RX12 540 yX12_enqueue, Cond.instanceMethod yX12_enqueue, Cond.selects RX12 yX12_enqueue yX12_enqueue, Cond.code yX12_enqueue cX12_enqueue 8 none, Cond.methodLink RX12 407 yX12_isEnded, Cond.instanceMethod yX12_isEnded, Cond.selects RX12 yX12_isEnded yX12_isEnded, Cond.code yX12_isEnded cX12_isEnded 3 none, Cond.methodLink RX12 411 yX12_begins, Cond.instanceMethod yX12_begins, Cond.selects RX12 yX12_begins yX12_begins, Cond.code yX12_begins cX12_begins 2 none, Cond.methodLink RX12 414 yX12_drawn, Cond.instanceMethod yX12_drawn, Cond.selects RX12 yX12_drawn yX12_drawn, Cond.code yX12_drawn cX12_drawn 1 (some .int), Cond.methodLink RL 80 yX11_leave, Cond.instanceMethod yX11_leave]
def gR23 : List Cond := [Cond.selects RX11 yX11_leave yX11_leave, Cond.code yX11_leave cX11_leave 3 (some .int), Cond.methodLink RL 83 yX12_leave, Cond.instanceMethod yX12_leave, Cond.selects RX12 yX12_leave yX12_leave, Cond.code yX12_leave cX12_leave 3 (some .int), Cond.methodLink RX12 557 yX12_sendsEnd, Cond.instanceMethod yX12_sendsEnd, Cond.selects RX12 yX12_sendsEnd yX12_sendsEnd, Cond.code yX12_sendsEnd cX12_sendsEnd 4 none, Cond.methodLink RL 84 yX11_submit, Cond.instanceMethod yX11_submit, Cond.selects RX11 yX11_submit yX11_submit, Cond.code yX11_submit cX11_submit 4 (some .int), Cond.fieldLink RX11 166 "WirelessCell" "submissions" "I", Cond.methodLink RX11 169 yX11_queueTape, Cond.instanceMethod yX11_queueTape, Cond.selects RX11 yX11_queueTape yX11_queueTape, Cond.code yX11_queueTape cX11_queueTape 6 (some .int), Cond.fieldLink RX11 177 "WirelessCell$Link" "state" "I", Cond.methodLink RX11 173 yX11_linkOf, Cond.instanceMethod yX11_linkOf, Cond.selects RX11 yX11_linkOf yX11_linkOf, Cond.code yX11_linkOf cX11_linkOf 3 (some (.object "WirelessCell$Link"))]
def gR24 : List Cond := [Cond.methodLink RX11 198 yX2_writeHead, Cond.static yX2_writeHead, Cond.code yX2_writeHead cX2_writeHead 3 none, Cond.fieldLink RX2 73 "WirelessCell$Frames" "HEAD" "[I", Cond.methodLink RX2 76 arraycopyName, Cond.methodLink RL 87 yX12_submit, Cond.instanceMethod yX12_submit, Cond.selects RX12 yX12_submit yX12_submit, Cond.code yX12_submit cX12_submit 6 (some .int), Cond.fieldLink RX12 607 "WirelessCellModel" "submissions" "I", Cond.methodLink RX12 537 yX12_beginsMessage, Cond.instanceMethod yX12_beginsMessage, Cond.selects RX12 yX12_beginsMessage yX12_beginsMessage, Cond.code yX12_beginsMessage cX12_beginsMessage 3 none, Cond.methodLink RL 88 yX11_go, Cond.instanceMethod yX11_go, Cond.selects RX11 yX11_go yX11_go, Cond.code yX11_go cX11_go 6 (some .int), Cond.fieldLink RX11 205 "WirelessCell$Medium" "began" "I", Cond.methodLink RX11 208 yX11_idleSlots, Cond.instanceMethod yX11_idleSlots, Cond.selects RX11 yX11_idleSlots yX11_idleSlots, Cond.code yX11_idleSlots cX11_idleSlots 3 (some .int), Cond.fieldLink RX11 341 "WirelessCell$Medium" "onAir" "I"]
def gR25 : List Cond := [Cond.fieldLink RX11 344 "WirelessCell$Node" "dueSlot" "I", Cond.methodLink RX11 347 yX8_slotsAhead, Cond.instanceMethod yX8_slotsAhead, Cond.selects RX8 yX8_slotsAhead yX8_slotsAhead, Cond.code yX8_slotsAhead cX8_slotsAhead 5 (some .int), Cond.methodLink RX8 33 Lib.Math.min.name, Cond.static Lib.Math.min.name, Cond.initialized "java/lang/Math", Cond.code Lib.Math.min.name Lib.Math.min.code 2 (some .int), Cond.methodLink RX11 211 yX5_passQuiet, Cond.instanceMethod yX5_passQuiet, Cond.selects RX5 yX5_passQuiet yX5_passQuiet, Cond.code yX5_passQuiet cX5_passQuiet 2 none, Cond.fieldLink RX5 52 "WirelessCell$Medium" "slot" "I", Cond.fieldLink RX5 55 "WirelessCell$Medium" "quietSlots" "I", Cond.methodLink RX11 214 yX11_beginNodes, Cond.instanceMethod yX11_beginNodes, Cond.selects RX11 yX11_beginNodes yX11_beginNodes, Cond.code yX11_beginNodes cX11_beginNodes 4 none, Cond.fieldLink RX11 354 "WirelessCell$Node" "dueAck" "Z", Cond.methodLink RX11 350 yX5_isQuietSince, Cond.instanceMethod yX5_isQuietSince, Cond.selects RX5 yX5_isQuietSince yX5_isQuietSince, Cond.code yX5_isQuietSince cX5_isQuietSince 1 (some .boolean)]
def gR26 : List Cond := [Cond.methodLink RX11 357 yX11_beginAck, Cond.instanceMethod yX11_beginAck, Cond.selects RX11 yX11_beginAck yX11_beginAck, Cond.code yX11_beginAck cX11_beginAck 2 none, Cond.fieldLink RX11 372 "WirelessCell$Node" "ackTo" "[I", Cond.fieldLink RX11 375 "WirelessCell$Node" "number" "I", Cond.fieldLink RX11 380 "WirelessCell$Node" "lastSendSlot" "I", Cond.fieldLink RX11 383 "WirelessCell$Node" "sendsAck" "Z", Cond.methodLink RX11 367 yJ7_fill_53178, Cond.methodLink RX11 378 yX5_begin, Cond.instanceMethod yX5_begin, Cond.selects RX5 yX5_begin yX5_begin, Cond.code yX5_begin cX5_begin 5 (some .int), Cond.methodLink RX5 65 Lib.Math.min.name, Cond.methodLink RX5 71 arraycopyName, Cond.fieldLink RX5 77 "WirelessCell$Medium" "began" "I", Cond.fieldLink RX5 80 "WirelessCell$Medium" "onAir" "I", Cond.methodLink RX5 58 yX5_slotsOf, Cond.static yX5_slotsOf, Cond.code yX5_slotsOf cX5_slotsOf 1 (some .int), Cond.methodLink RX11 361 yX11_beginFrame, Cond.instanceMethod yX11_beginFrame, Cond.selects RX11 yX11_beginFrame yX11_beginFrame, Cond.code yX11_beginFrame cX11_beginFrame 4 none]
def gR27 : List Cond := [Cond.fieldLink RX11 338 "WirelessCell$Node" "frameLength" "I", Cond.fieldLink RX11 394 "WirelessCell$Node" "frame" "[I", Cond.methodLink RX11 329 yX9_first, Cond.instanceMethod yX9_first, Cond.selects RX9 yX9_first yX9_first, Cond.code yX9_first cX9_first 1 (some (.object "WirelessCell$Message")), Cond.methodLink RX11 386 yX11_finishFirst, Cond.instanceMethod yX11_finishFirst, Cond.selects RX11 yX11_finishFirst yX11_finishFirst, Cond.code yX11_finishFirst cX11_finishFirst 4 none, Cond.fieldLink RX11 260 "WirelessCell$Node" "tries" "I", Cond.fieldLink RX11 335 "WirelessCell$Node" "part" "I", Cond.methodLink RX11 332 yX9_removeFirst, Cond.instanceMethod yX9_removeFirst, Cond.selects RX9 yX9_removeFirst yX9_removeFirst, Cond.code yX9_removeFirst cX9_removeFirst 1 none, Cond.methodLink RX11 390 yX11_makeFrame, Cond.instanceMethod yX11_makeFrame, Cond.selects RX11 yX11_makeFrame yX11_makeFrame, Cond.code yX11_makeFrame cX11_makeFrame 8 none, Cond.methodLink RX11 397 Lib.Math.min.name, Cond.fieldLink RX11 406 "WirelessCell$Link" "nextToSeal" "J", Cond.fieldLink RX11 284 "WirelessCell$Link" "tk" "[I", Cond.methodLink RX11 402 yX2_writeHeader]
def gR28 : List Cond := [Cond.static yX2_writeHeader, Cond.code yX2_writeHeader cX2_writeHeader 5 none, Cond.fieldLink RX2 36 "WirelessCell$Message" "kind" "I", Cond.fieldLink RX2 46 "WirelessCell$Message" "receiver" "I", Cond.fieldLink RX2 53 "WirelessCell$Message" "third" "I", Cond.fieldLink RX2 56 "WirelessCell$Message" "sequence" "I", Cond.methodLink RX2 42 yX2_dataFlags, Cond.static yX2_dataFlags, Cond.code yX2_dataFlags cX2_dataFlags 4 (some .int), Cond.fieldLink RX2 59 "WirelessCell$Message" "cut" "I", Cond.fieldLink RX2 62 "WirelessCell$Message" "length" "I", Cond.fieldLink RX2 65 "WirelessCell$Message" "sealed" "Z", Cond.methodLink RX2 49 yX2_writeAddress, Cond.static yX2_writeAddress, Cond.code yX2_writeAddress cX2_writeAddress 3 none, Cond.methodLink RX11 410 yX2_writeSealHeader, Cond.static yX2_writeSealHeader, Cond.code yX2_writeSealHeader cX2_writeSealHeader 4 none, Cond.methodLink RX11 414 yX0_seal, Cond.instanceMethod yX0_seal, Cond.selects RX0 yX0_seal yX0_seal, Cond.code yX0_seal cX0_seal 5 none, Cond.methodLink RX0 31 arraycopyName, Cond.methodLink RX0 27 yX0_expandKey]
def gR29 : List Cond := [Cond.instanceMethod yX0_expandKey, Cond.selects RX0 yX0_expandKey yX0_expandKey, Cond.code yX0_expandKey cX0_expandKey 7 none, Cond.fieldLink RX0 55 "WirelessCell$Ccm" "SBOX" "[I", Cond.methodLink RX0 37 yX0_addUp, Cond.instanceMethod yX0_addUp, Cond.selects RX0 yX0_addUp yX0_addUp, Cond.code yX0_addUp cX0_addUp 5 none, Cond.methodLink RX0 45 yX0_setFirstBlock, Cond.static yX0_setFirstBlock, Cond.code yX0_setFirstBlock cX0_setFirstBlock 5 none, Cond.methodLink RX0 48 yX0_encrypt, Cond.instanceMethod yX0_encrypt, Cond.selects RX0 yX0_encrypt yX0_encrypt, Cond.code yX0_encrypt cX0_encrypt 7 none, Cond.methodLink RX0 51 yX0_additional, Cond.static yX0_additional, Cond.code yX0_additional cX0_additional 2 (some .int), Cond.methodLink RX0 41 yX0_crypt, Cond.instanceMethod yX0_crypt, Cond.selects RX0 yX0_crypt yX0_crypt, Cond.code yX0_crypt cX0_crypt 6 none, Cond.methodLink RX11 364 yX7_contends, Cond.instanceMethod yX7_contends]
def gR30 : List Cond := [Cond.selects RX7 yX7_contends yX7_contends, Cond.code yX7_contends cX7_contends 2 (some .boolean), Cond.fieldLink RX7 60 "WirelessCell$Queue" "used" "I", Cond.methodLink RX11 217 yX8_begin, Cond.instanceMethod yX8_begin, Cond.selects RX8 yX8_begin yX8_begin, Cond.code yX8_begin cX8_begin 4 none, Cond.fieldLink RX8 39 "WirelessCell$Medium" "slot" "I", Cond.methodLink RX8 44 yX5_begin, Cond.methodLink RX8 48 yX8_moveUp, Cond.instanceMethod yX8_moveUp, Cond.selects RX8 yX8_moveUp yX8_moveUp, Cond.code yX8_moveUp cX8_moveUp 4 none, Cond.methodLink RX11 221 yX5_closeBeginnings, Cond.instanceMethod yX5_closeBeginnings, Cond.selects RX5 yX5_closeBeginnings yX5_closeBeginnings, Cond.code yX5_closeBeginnings cX5_closeBeginnings 1 none, Cond.methodLink RX5 83 yX5_isNoisy, Cond.instanceMethod yX5_isNoisy, Cond.selects RX5 yX5_isNoisy yX5_isNoisy, Cond.code yX5_isNoisy cX5_isNoisy 2 (some .boolean), Cond.methodLink RX5 87 yX5_spoilAll, Cond.instanceMethod yX5_spoilAll, Cond.selects RX5 yX5_spoilAll yX5_spoilAll]
def gR31 : List Cond := [Cond.code yX5_spoilAll cX5_spoilAll 2 none, Cond.methodLink RX11 224 yX11_endFrames, Cond.instanceMethod yX11_endFrames, Cond.selects RX11 yX11_endFrames yX11_endFrames, Cond.code yX11_endFrames cX11_endFrames 3 (some .int), Cond.fieldLink RX11 263 "WirelessCell$Node" "waitsFrom" "I", Cond.methodLink RX11 418 yX5_closeEndings, Cond.instanceMethod yX5_closeEndings, Cond.selects RX5 yX5_closeEndings yX5_closeEndings, Cond.code yX5_closeEndings cX5_closeEndings 4 (some .boolean), Cond.fieldLink RX5 90 "WirelessCell$Medium" "notClean" "I", Cond.methodLink RX11 421 yX11_takeFrame, Cond.instanceMethod yX11_takeFrame, Cond.selects RX11 yX11_takeFrame yX11_takeFrame, Cond.code yX11_takeFrame cX11_takeFrame 5 (some .int), Cond.methodLink RX11 228 yX5_newestBytes, Cond.instanceMethod yX5_newestBytes, Cond.selects RX5 yX5_newestBytes yX5_newestBytes, Cond.code yX5_newestBytes cX5_newestBytes 1 (some (.array .int)), Cond.methodLink RX11 424 yX5_newestLength, Cond.instanceMethod yX5_newestLength, Cond.selects RX5 yX5_newestLength yX5_newestLength, Cond.code yX5_newestLength cX5_newestLength 1 (some .int), Cond.methodLink RX11 427 yX2_isTakeable]
def gR32 : List Cond := [Cond.static yX2_isTakeable, Cond.code yX2_isTakeable cX2_isTakeable 2 (some .boolean), Cond.methodLink RX2 19 yX2_hasToldControl, Cond.static yX2_hasToldControl, Cond.code yX2_hasToldControl cX2_hasToldControl 2 (some .boolean), Cond.methodLink RX2 23 yX2_hasRightFcs, Cond.static yX2_hasRightFcs, Cond.code yX2_hasRightFcs cX2_hasRightFcs 5 (some .boolean), Cond.methodLink RX11 431 yX2_nodeAt, Cond.static yX2_nodeAt, Cond.code yX2_nodeAt cX2_nodeAt 3 (some .int), Cond.methodLink RX11 435 yX5_newestSender, Cond.instanceMethod yX5_newestSender, Cond.selects RX5 yX5_newestSender yX5_newestSender, Cond.code yX5_newestSender cX5_newestSender 1 (some .int), Cond.methodLink RX11 438 yX11_takeAck, Cond.instanceMethod yX11_takeAck, Cond.selects RX11 yX11_takeAck yX11_takeAck, Cond.code yX11_takeAck cX11_takeAck 3 none, Cond.methodLink RX11 441 yX7_dropsAgain, Cond.instanceMethod yX7_dropsAgain, Cond.selects RX7 yX7_dropsAgain yX7_dropsAgain, Cond.code yX7_dropsAgain cX7_dropsAgain 4 (some .boolean), Cond.fieldLink RX7 63 "WirelessCell$Node" "droppedAgain" "I"]
def gR33 : List Cond := [Cond.methodLink RX11 232 yX11_takeData, Cond.instanceMethod yX11_takeData, Cond.selects RX11 yX11_takeData yX11_takeData, Cond.code yX11_takeData cX11_takeData 7 none, Cond.methodLink RX11 468 yX11_takeSealed, Cond.instanceMethod yX11_takeSealed, Cond.selects RX11 yX11_takeSealed yX11_takeSealed, Cond.code yX11_takeSealed cX11_takeSealed 7 (some .boolean), Cond.fieldLink RX11 281 "WirelessCell$Node" "droppedSealed" "I", Cond.fieldLink RX11 521 "WirelessCell$Link" "taken" "J", Cond.fieldLink RX11 527 "WirelessCell$Ccm" "plain" "[I", Cond.fieldLink RX11 534 "WirelessCell$Link" "begun" "Z", Cond.fieldLink RX11 327 "WirelessCell$Link" "length" "I", Cond.fieldLink RX11 328 "WirelessCell$Link" "bytes" "[I", Cond.methodLink RX11 517 yX2_sealNumber, Cond.static yX2_sealNumber, Cond.code yX2_sealNumber cX2_sealNumber 4 (some .long), Cond.constantLong RX2 69 (256), Cond.constantLong RX2 71 (65536), Cond.methodLink RX11 524 yX0_open, Cond.instanceMethod yX0_open, Cond.selects RX0 yX0_open yX0_open, Cond.code yX0_open cX0_open 6 (some .boolean), Cond.methodLink RX11 530 yX4_addPart]
def gR34 : List Cond := [Cond.instanceMethod yX4_addPart, Cond.selects RX4 yX4_addPart yX4_addPart, Cond.code yX4_addPart cX4_addPart 7 (some .boolean), Cond.fieldLink RX4 53 "WirelessCell$Link" "sequence" "I", Cond.fieldLink RX4 56 "WirelessCell$Link" "nextPart" "I", Cond.fieldLink RX4 59 "WirelessCell$Link" "length" "I", Cond.methodLink RX4 44 arraycopyName, Cond.methodLink RX11 537 yX2_hasHead, Cond.static yX2_hasHead, Cond.code yX2_hasHead cX2_hasHead 4 (some .boolean), Cond.methodLink RX2 82 yX2_sameBytes, Cond.static yX2_sameBytes, Cond.code yX2_sameBytes cX2_sameBytes 6 (some .boolean), Cond.methodLink RX11 472 yX11_passOn, Cond.instanceMethod yX11_passOn, Cond.selects RX11 yX11_passOn yX11_passOn, Cond.code yX11_passOn cX11_passOn 5 none, Cond.fieldLink RX11 269 "WirelessCell$Node" "inbox" "LWirelessCell$Inbox;", Cond.methodLink RX11 483 yX3_addLast, Cond.instanceMethod yX3_addLast, Cond.selects RX3 yX3_addLast yX3_addLast, Cond.code yX3_addLast cX3_addLast 4 none, Cond.fieldLink RX3 23 "WirelessCell$Inbox" "delivered" "I", Cond.methodLink RX3 27 arraycopyName]
def gR35 : List Cond := [Cond.methodLink RX11 486 yX11_queueForward, Cond.instanceMethod yX11_queueForward, Cond.selects RX11 yX11_queueForward yX11_queueForward, Cond.code yX11_queueForward cX11_queueForward 5 none, Cond.methodLink RX11 476 yX11_takeHandAtAp, Cond.instanceMethod yX11_takeHandAtAp, Cond.selects RX11 yX11_takeHandAtAp yX11_takeHandAtAp, Cond.code yX11_takeHandAtAp cX11_takeHandAtAp 5 none, Cond.fieldLink RX11 497 "WirelessCell$Sha" "ptk" "[I", Cond.fieldLink RX11 457 "WirelessCell$Link" "tried" "[I", Cond.fieldLink RX11 508 "WirelessCell$Link" "hasTried" "Z", Cond.methodLink RX11 490 yX2_handIn, Cond.static yX2_handIn, Cond.code yX2_handIn cX2_handIn 3 (some .int), Cond.fieldLink RX2 86 "WirelessCell$Frames" "HAND_BYTES" "[I", Cond.methodLink RX2 89 yX2_hasHead, Cond.methodLink RX11 493 yX10_derive, Cond.instanceMethod yX10_derive, Cond.selects RX10 yX10_derive yX10_derive, Cond.code yX10_derive cX10_derive 8 none, Cond.methodLink RX10 48 arraycopyName, Cond.methodLink RX10 32 yJ0_length_8abf5, Cond.instanceMethod yJ0_length_8abf5, Cond.selects RJ0 yJ0_length_8abf5 yJ0_length_8abf5]
def gR36 : List Cond := [Cond.initialized RJ0, Cond.code yJ0_length_8abf5 cJ0_length_8abf5 1 (some .int), Cond.fieldLink RJ0 9 "java/lang/String" "value" "[B", Cond.methodLink RJ0 335 yJ0_coder_7d493, Cond.instanceMethod yJ0_coder_7d493, Cond.selects RJ0 yJ0_coder_7d493 yJ0_coder_7d493, Cond.code yJ0_coder_7d493 cJ0_coder_7d493 1 (some .byte), Cond.fieldLink RJ0 38 "java/lang/String" "COMPACT_STRINGS" "Z", Cond.fieldLink RJ0 15 "java/lang/String" "coder" "B", Cond.methodLink RX10 38 yJ0_charAt_5068e, Cond.instanceMethod yJ0_charAt_5068e, Cond.selects RJ0 yJ0_charAt_5068e yJ0_charAt_5068e, Cond.code yJ0_charAt_5068e cJ0_charAt_5068e 2 (some .char), Cond.methodLink RJ0 492 yJ0_isLatin1_aae02, Cond.instanceMethod yJ0_isLatin1_aae02, Cond.selects RJ0 yJ0_isLatin1_aae02 yJ0_isLatin1_aae02, Cond.code yJ0_isLatin1_aae02 cJ0_isLatin1_aae02 1 (some .boolean), Cond.methodLink RJ0 495 yJ1_charAt_3b067, Cond.static yJ1_charAt_3b067, Cond.initialized RJ1, Cond.code yJ1_charAt_3b067 cJ1_charAt_3b067 2 (some .char), Cond.methodLink RJ1 9 yJ0_checkIndex_df160, Cond.static yJ0_checkIndex_df160, Cond.code yJ0_checkIndex_df160 cJ0_checkIndex_df160 2 none]
def gR37 : List Cond := [Cond.fieldLink RJ0 1053 "jdk/internal/util/Preconditions" "SIOOBE_FORMATTER" "Ljava/util/function/BiFunction;", Cond.methodLink RJ0 1059 yJ3_checkIndex_8e157, Cond.static yJ3_checkIndex_8e157, Cond.initialized RJ3, Cond.code yJ3_checkIndex_8e157 cJ3_checkIndex_8e157 3 (some .int), Cond.methodLink RJ0 498 yJ2_charAt_3b067, Cond.static yJ2_charAt_3b067, Cond.initialized RJ2, Cond.code yJ2_charAt_3b067 cJ2_charAt_3b067 2 (some .char), Cond.methodLink RJ2 67 yJ2_checkIndex_2214a, Cond.static yJ2_checkIndex_2214a, Cond.code yJ2_checkIndex_2214a cJ2_checkIndex_2214a 2 none, Cond.methodLink RJ2 48 yJ2_length_9d52b, Cond.static yJ2_length_9d52b, Cond.code yJ2_length_9d52b cJ2_length_9d52b 1 (some .int), Cond.methodLink RJ2 414 yJ0_checkIndex_df160, Cond.methodLink RJ2 71 yJ2_getChar_3b067, Cond.static yJ2_getChar_3b067, Cond.code yJ2_getChar_3b067 cJ2_getChar_3b067 2 (some .char), Cond.fieldLink RJ2 44 "java/lang/StringUTF16" "$assertionsDisabled" "Z", Cond.fieldLink RJ2 59 "java/lang/StringUTF16" "HI_BYTE_SHIFT" "I", Cond.fieldLink RJ2 63 "java/lang/StringUTF16" "LO_BYTE_SHIFT" "I", Cond.methodLink RX10 54 yX10_hashKeyed, Cond.instanceMethod yX10_hashKeyed]
def gR38 : List Cond := [Cond.selects RX10 yX10_hashKeyed yX10_hashKeyed, Cond.code yX10_hashKeyed cX10_hashKeyed 6 none, Cond.methodLink RX10 58 yX10_padKey, Cond.instanceMethod yX10_padKey, Cond.selects RX10 yX10_padKey yX10_padKey, Cond.code yX10_padKey cX10_padKey 5 none, Cond.methodLink RX10 61 yX10_hashText, Cond.instanceMethod yX10_hashText, Cond.selects RX10 yX10_hashText yX10_hashText, Cond.code yX10_hashText cX10_hashText 5 none, Cond.constantLong RX10 71 (8), Cond.constant RX10 77 (1732584193), Cond.constant RX10 78 (-271733879), Cond.constant RX10 79 (-1732584194), Cond.constant RX10 80 (271733878), Cond.constant RX10 81 (-1009589776), Cond.methodLink RX10 65 yJ7_fill_fda19, Cond.methodLink RX10 73 yX2_writeHighestFirst, Cond.methodLink RX10 82 yX10_fillWords, Cond.instanceMethod yX10_fillWords, Cond.selects RX10 yX10_fillWords yX10_fillWords, Cond.code yX10_fillWords cX10_fillWords 4 none, Cond.methodLink RX10 85 yX10_addWords, Cond.instanceMethod yX10_addWords]
def gR39 : List Cond := [Cond.selects RX10 yX10_addWords yX10_addWords, Cond.code yX10_addWords cX10_addWords 9 none, Cond.constant RX10 88 (1518500249), Cond.constant RX10 89 (1859775393), Cond.constant RX10 90 (-1894007588), Cond.constant RX10 91 (-899497514), Cond.methodLink RX11 500 yX11_hasRightMic, Cond.instanceMethod yX11_hasRightMic, Cond.selects RX11 yX11_hasRightMic yX11_hasRightMic, Cond.code yX11_hasRightMic cX11_hasRightMic 4 (some .boolean), Cond.fieldLink RX11 324 "WirelessCell$Sha" "digest" "[I", Cond.methodLink RX11 320 yX10_hashKeyed, Cond.methodLink RX11 464 yX2_sameBytes, Cond.methodLink RX11 504 yX4_keepTried, Cond.instanceMethod yX4_keepTried, Cond.selects RX4 yX4_keepTried yX4_keepTried, Cond.code yX4_keepTried cX4_keepTried 2 none, Cond.methodLink RX11 460 yX11_queueHand, Cond.instanceMethod yX11_queueHand, Cond.selects RX11 yX11_queueHand yX11_queueHand, Cond.code yX11_queueHand cX11_queueHand 8 none, Cond.methodLink RX11 511 yX4_keyByTried, Cond.instanceMethod yX4_keyByTried, Cond.selects RX4 yX4_keyByTried yX4_keyByTried]
def gR40 : List Cond := [Cond.code yX4_keyByTried cX4_keyByTried 1 none, Cond.fieldLink RX4 50 "WirelessCell$Link" "taken" "J", Cond.methodLink RX11 480 yX11_takeHandAtStation, Cond.instanceMethod yX11_takeHandAtStation, Cond.selects RX11 yX11_takeHandAtStation yX11_takeHandAtStation, Cond.code yX11_takeHandAtStation cX11_takeHandAtStation 5 none, Cond.fieldLink RX11 514 "WirelessCell$Link" "triedNonce" "[I", Cond.methodLink RX11 235 yX11_takeManagement, Cond.instanceMethod yX11_takeManagement, Cond.selects RX11 yX11_takeManagement yX11_takeManagement, Cond.code yX11_takeManagement cX11_takeManagement 4 none, Cond.methodLink RX11 447 yX11_actAtAp, Cond.instanceMethod yX11_actAtAp, Cond.selects RX11 yX11_actAtAp yX11_actAtAp, Cond.code yX11_actAtAp cX11_actAtAp 4 none, Cond.methodLink RX11 454 yX11_hasBody, Cond.instanceMethod yX11_hasBody, Cond.selects RX11 yX11_hasBody yX11_hasBody, Cond.code yX11_hasBody cX11_hasBody 5 (some .boolean), Cond.methodLink RX11 451 yX11_actAtStation, Cond.instanceMethod yX11_actAtStation, Cond.selects RX11 yX11_actAtStation yX11_actAtStation, Cond.code yX11_actAtStation cX11_actAtStation 4 none, Cond.methodLink RX11 238 yX11_failWaiters]
def gR41 : List Cond := [Cond.instanceMethod yX11_failWaiters, Cond.selects RX11 yX11_failWaiters yX11_failWaiters, Cond.code yX11_failWaiters cX11_failWaiters 3 none, Cond.methodLink RX11 444 yX11_fail, Cond.instanceMethod yX11_fail, Cond.selects RX11 yX11_fail yX11_fail, Cond.code yX11_fail cX11_fail 2 none, Cond.fieldLink RX11 298 "WirelessCell" "failures" "I", Cond.methodLink RX11 241 yX11_countDown, Cond.instanceMethod yX11_countDown, Cond.selects RX11 yX11_countDown yX11_countDown, Cond.code yX11_countDown cX11_countDown 2 none, Cond.methodLink RL 91 yX12_go, Cond.instanceMethod yX12_go, Cond.selects RX12 yX12_go yX12_go, Cond.code yX12_go cX12_go 4 (some .int), Cond.constantLong RX12 610 (3000), Cond.methodLink RX12 612 yX12_goSlot, Cond.instanceMethod yX12_goSlot, Cond.selects RX12 yX12_goSlot yX12_goSlot, Cond.code yX12_goSlot cX12_goSlot 4 none, Cond.fieldLink RX12 451 "WirelessCellModel" "live" "I", Cond.fieldLink RX12 513 "WirelessCellModel" "quietMany" "I", Cond.methodLink RX12 500 yX12_begin]
def gR42 : List Cond := [Cond.instanceMethod yX12_begin, Cond.selects RX12 yX12_begin yX12_begin, Cond.code yX12_begin cX12_begin 4 none, Cond.methodLink RX12 470 yX12_acknowledge, Cond.instanceMethod yX12_acknowledge, Cond.selects RX12 yX12_acknowledge yX12_acknowledge, Cond.code yX12_acknowledge cX12_acknowledge 3 none, Cond.methodLink RX12 434 yX12_putCheck, Cond.instanceMethod yX12_putCheck, Cond.selects RX12 yX12_putCheck yX12_putCheck, Cond.code yX12_putCheck cX12_putCheck 6 none, Cond.methodLink RX12 460 yX12_goesOut, Cond.instanceMethod yX12_goesOut, Cond.selects RX12 yX12_goesOut yX12_goesOut, Cond.code yX12_goesOut cX12_goesOut 9 none, Cond.methodLink RX12 473 yX12_sendsAtHand, Cond.instanceMethod yX12_sendsAtHand, Cond.selects RX12 yX12_sendsAtHand yX12_sendsAtHand, Cond.code yX12_sendsAtHand cX12_sendsAtHand 2 none, Cond.methodLink RX12 464 yX12_make, Cond.instanceMethod yX12_make, Cond.selects RX12 yX12_make yX12_make, Cond.code yX12_make cX12_make 12 (some .boolean), Cond.methodLink RX12 418 yX12_isSealed]
def gR43 : List Cond := [Cond.instanceMethod yX12_isSealed, Cond.selects RX12 yX12_isSealed yX12_isSealed, Cond.code yX12_isSealed cX12_isSealed 3 (some .boolean), Cond.methodLink RX12 421 yX12_pairOf, Cond.instanceMethod yX12_pairOf, Cond.selects RX12 yX12_pairOf yX12_pairOf, Cond.code yX12_pairOf cX12_pairOf 2 (some .int), Cond.methodLink RX12 424 yX12_partsOf, Cond.instanceMethod yX12_partsOf, Cond.selects RX12 yX12_partsOf yX12_partsOf, Cond.code yX12_partsOf cX12_partsOf 3 (some .int), Cond.methodLink RX12 427 yX12_putAddress, Cond.static yX12_putAddress, Cond.code yX12_putAddress cX12_putAddress 4 none, Cond.methodLink RX12 430 yX12_seal, Cond.instanceMethod yX12_seal, Cond.selects RX12 yX12_seal yX12_seal, Cond.code yX12_seal cX12_seal 9 none, Cond.methodLink RX12 437 yX12_expand, Cond.instanceMethod yX12_expand, Cond.selects RX12 yX12_expand yX12_expand, Cond.code yX12_expand cX12_expand 8 none, Cond.methodLink RX12 441 yX12_nonceOf, Cond.instanceMethod yX12_nonceOf]
def gR44 : List Cond := [Cond.selects RX12 yX12_nonceOf yX12_nonceOf, Cond.code yX12_nonceOf cX12_nonceOf 6 none, Cond.methodLink RX12 445 yX12_findTag, Cond.instanceMethod yX12_findTag, Cond.selects RX12 yX12_findTag yX12_findTag, Cond.code yX12_findTag cX12_findTag 8 none, Cond.methodLink RX12 335 yX12_chainStep, Cond.instanceMethod yX12_chainStep, Cond.selects RX12 yX12_chainStep yX12_chainStep, Cond.code yX12_chainStep cX12_chainStep 2 none, Cond.methodLink RX12 332 yX12_encipher, Cond.instanceMethod yX12_encipher, Cond.selects RX12 yX12_encipher yX12_encipher, Cond.code yX12_encipher cX12_encipher 7 none, Cond.methodLink RX12 338 yX12_besideAt, Cond.static yX12_besideAt, Cond.code yX12_besideAt cX12_besideAt 3 (some .int), Cond.methodLink RX12 342 yX12_counter, Cond.instanceMethod yX12_counter, Cond.selects RX12 yX12_counter yX12_counter, Cond.code yX12_counter cX12_counter 3 none, Cond.methodLink RX12 448 yX12_cover, Cond.instanceMethod yX12_cover, Cond.selects RX12 yX12_cover yX12_cover]
def gR45 : List Cond := [Cond.code yX12_cover cX12_cover 7 none, Cond.methodLink RX12 467 yX12_leaves, Cond.instanceMethod yX12_leaves, Cond.selects RX12 yX12_leaves yX12_leaves, Cond.code yX12_leaves cX12_leaves 5 none, Cond.methodLink RX12 503 yX12_isNoisy, Cond.instanceMethod yX12_isNoisy, Cond.selects RX12 yX12_isNoisy yX12_isNoisy, Cond.code yX12_isNoisy cX12_isNoisy 3 (some .boolean), Cond.methodLink RX12 507 yX12_endAll, Cond.instanceMethod yX12_endAll, Cond.selects RX12 yX12_endAll yX12_endAll, Cond.code yX12_endAll cX12_endAll 3 none, Cond.methodLink RX12 491 yX12_over, Cond.instanceMethod yX12_over, Cond.selects RX12 yX12_over yX12_over, Cond.code yX12_over cX12_over 6 none, Cond.fieldLink RX12 482 "WirelessCellModel" "seenLen" "I", Cond.fieldLink RX12 485 "WirelessCellModel" "unclean" "I", Cond.methodLink RX12 488 yX12_look, Cond.instanceMethod yX12_look, Cond.selects RX12 yX12_look yX12_look, Cond.code yX12_look cX12_look 7 none, Cond.methodLink RX12 516 yX12_isWhole]
def gR46 : List Cond := [Cond.instanceMethod yX12_isWhole, Cond.selects RX12 yX12_isWhole yX12_isWhole, Cond.code yX12_isWhole cX12_isWhole 4 (some .boolean), Cond.methodLink RX12 519 yX12_isTold, Cond.instanceMethod yX12_isTold, Cond.selects RX12 yX12_isTold yX12_isTold, Cond.code yX12_isTold cX12_isTold 3 (some .boolean), Cond.methodLink RX12 522 yX12_nodeAt, Cond.instanceMethod yX12_nodeAt, Cond.selects RX12 yX12_nodeAt yX12_nodeAt, Cond.code yX12_nodeAt cX12_nodeAt 3 (some .int), Cond.methodLink RX12 525 yX12_acknowledged, Cond.instanceMethod yX12_acknowledged, Cond.selects RX12 yX12_acknowledged yX12_acknowledged, Cond.code yX12_acknowledged cX12_acknowledged 2 none, Cond.methodLink RX12 528 yX12_actsAp, Cond.instanceMethod yX12_actsAp, Cond.selects RX12 yX12_actsAp yX12_actsAp, Cond.code yX12_actsAp cX12_actsAp 5 none, Cond.methodLink RX12 544 yX12_isBody, Cond.instanceMethod yX12_isBody, Cond.selects RX12 yX12_isBody yX12_isBody, Cond.code yX12_isBody cX12_isBody 6 (some .boolean), Cond.methodLink RX12 551 yX12_asks]
def gR47 : List Cond := [Cond.instanceMethod yX12_asks, Cond.selects RX12 yX12_asks yX12_asks, Cond.code yX12_asks cX12_asks 2 none, Cond.methodLink RX12 564 yX12_sendsHand, Cond.instanceMethod yX12_sendsHand, Cond.selects RX12 yX12_sendsHand yX12_sendsHand, Cond.code yX12_sendsHand cX12_sendsHand 7 none, Cond.methodLink RX12 394 yX12_macOf, Cond.instanceMethod yX12_macOf, Cond.selects RX12 yX12_macOf yX12_macOf, Cond.code yX12_macOf cX12_macOf 7 none, Cond.methodLink RX12 378 yX12_macBegin, Cond.instanceMethod yX12_macBegin, Cond.selects RX12 yX12_macBegin yX12_macBegin, Cond.code yX12_macBegin cX12_macBegin 5 none, Cond.methodLink RX12 316 yX12_hashBegin, Cond.instanceMethod yX12_hashBegin, Cond.selects RX12 yX12_hashBegin yX12_hashBegin, Cond.code yX12_hashBegin cX12_hashBegin 1 none, Cond.constant RX12 290 (1732584193), Cond.constant RX12 291 (-271733879), Cond.constant RX12 292 (-1732584194), Cond.constant RX12 293 (271733878), Cond.constant RX12 294 (-1009589776)]
def gR48 : List Cond := [Cond.fieldLink RX12 295 "WirelessCellModel" "filled" "I", Cond.fieldLink RX12 298 "WirelessCellModel" "hashed" "J", Cond.methodLink RX12 312 yX12_hash, Cond.instanceMethod yX12_hash, Cond.selects RX12 yX12_hash yX12_hash, Cond.code yX12_hash cX12_hash 11 none, Cond.constant RX12 306 (1518500249), Cond.constant RX12 307 (1859775393), Cond.constant RX12 308 (-1894007588), Cond.constant RX12 309 (-899497514), Cond.methodLink RX12 302 yX12_left, Cond.static yX12_left, Cond.code yX12_left cX12_left 2 (some .int), Cond.methodLink RX12 391 yX12_macEnd, Cond.instanceMethod yX12_macEnd, Cond.selects RX12 yX12_macEnd yX12_macEnd, Cond.code yX12_macEnd cX12_macEnd 2 none, Cond.methodLink RX12 319 yX12_hashEnd, Cond.instanceMethod yX12_hashEnd, Cond.selects RX12 yX12_hashEnd yX12_hashEnd, Cond.code yX12_hashEnd cX12_hashEnd 4 none, Cond.methodLink RX12 554 yX12_opens, Cond.instanceMethod yX12_opens, Cond.selects RX12 yX12_opens yX12_opens]
def gR49 : List Cond := [Cond.code yX12_opens cX12_opens 9 none, Cond.methodLink RX12 587 yX12_isRight, Cond.instanceMethod yX12_isRight, Cond.selects RX12 yX12_isRight yX12_isRight, Cond.code yX12_isRight cX12_isRight 7 (some .boolean), Cond.methodLink RX12 590 yX12_whole, Cond.instanceMethod yX12_whole, Cond.selects RX12 yX12_whole yX12_whole, Cond.code yX12_whole cX12_whole 9 none, Cond.methodLink RX12 593 yX12_deliver, Cond.instanceMethod yX12_deliver, Cond.selects RX12 yX12_deliver yX12_deliver, Cond.code yX12_deliver cX12_deliver 7 none, Cond.methodLink RX12 561 yX12_handAp, Cond.instanceMethod yX12_handAp, Cond.selects RX12 yX12_handAp yX12_handAp, Cond.code yX12_handAp cX12_handAp 4 none, Cond.methodLink RX12 567 yX12_handOf, Cond.instanceMethod yX12_handOf, Cond.selects RX12 yX12_handOf yX12_handOf, Cond.code yX12_handOf cX12_handOf 4 (some .int), Cond.methodLink RX12 570 yX12_findTried, Cond.instanceMethod yX12_findTried, Cond.selects RX12 yX12_findTried yX12_findTried]
def gR50 : List Cond := [Cond.code yX12_findTried cX12_findTried 8 none, Cond.constantLong RX12 382 (5792026536125756261), Cond.constantLong RX12 384 (2336072402630703216), Cond.constantLong RX12 386 (107127010586478), Cond.methodLink RX12 374 yX12_hashLetters, Cond.instanceMethod yX12_hashLetters, Cond.selects RX12 yX12_hashLetters yX12_hashLetters, Cond.code yX12_hashLetters cX12_hashLetters 5 none, Cond.methodLink RX12 388 yX12_hashAddress, Cond.instanceMethod yX12_hashAddress, Cond.selects RX12 yX12_hashAddress yX12_hashAddress, Cond.code yX12_hashAddress cX12_hashAddress 2 none, Cond.constantLong RX12 372 (2199023255552), Cond.methodLink RX12 574 yX12_isMac, Cond.instanceMethod yX12_isMac, Cond.selects RX12 yX12_isMac yX12_isMac, Cond.code yX12_isMac cX12_isMac 8 (some .boolean), Cond.methodLink RX12 578 yX12_keepTried, Cond.instanceMethod yX12_keepTried, Cond.selects RX12 yX12_keepTried yX12_keepTried, Cond.code yX12_keepTried cX12_keepTried 3 none, Cond.methodLink RX12 581 yX12_keyBy, Cond.instanceMethod yX12_keyBy, Cond.selects RX12 yX12_keyBy yX12_keyBy]
def gR51 : List Cond := [Cond.code yX12_keyBy cX12_keyBy 3 none, Cond.methodLink RX12 531 yX12_actsStation, Cond.instanceMethod yX12_actsStation, Cond.selects RX12 yX12_actsStation yX12_actsStation, Cond.code yX12_actsStation cX12_actsStation 3 none, Cond.methodLink RX12 584 yX12_handStation, Cond.instanceMethod yX12_handStation, Cond.selects RX12 yX12_handStation yX12_handStation, Cond.code yX12_handStation cX12_handStation 5 none, Cond.methodLink RX12 494 yX12_moveLive, Cond.instanceMethod yX12_moveLive, Cond.selects RX12 yX12_moveLive yX12_moveLive, Cond.code yX12_moveLive cX12_moveLive 4 none, Cond.methodLink RX12 510 yX12_fail, Cond.instanceMethod yX12_fail, Cond.selects RX12 yX12_fail yX12_fail, Cond.code yX12_fail cX12_fail 3 none, Cond.fieldLink RX12 497 "WirelessCellModel" "failed" "I", Cond.methodLink RL 92 yX11_ended, Cond.instanceMethod yX11_ended, Cond.selects RX11 yX11_ended yX11_ended, Cond.code yX11_ended cX11_ended 2 (some .int), Cond.methodLink RL 95 yX12_ended, Cond.instanceMethod yX12_ended]
def gR52 : List Cond := [Cond.selects RX12 yX12_ended yX12_ended, Cond.code yX12_ended cX12_ended 2 (some .int), Cond.methodLink RL 96 yX11_node, Cond.instanceMethod yX11_node, Cond.selects RX11 yX11_node yX11_node, Cond.code yX11_node cX11_node 4 (some .int), Cond.fieldLink RX11 266 "WirelessCell$Queue" "nextSequence" "I", Cond.fieldLink RX11 273 "WirelessCell$Inbox" "delivered" "I", Cond.fieldLink RX11 278 "WirelessCell$Node" "droppedAgain" "I", Cond.methodLink RX11 244 yX11_keyedAtAp, Cond.instanceMethod yX11_keyedAtAp, Cond.selects RX11 yX11_keyedAtAp yX11_keyedAtAp, Cond.code yX11_keyedAtAp cX11_keyedAtAp 3 (some .int), Cond.methodLink RL 99 yX12_node, Cond.instanceMethod yX12_node, Cond.selects RX12 yX12_node yX12_node, Cond.code yX12_node cX12_node 3 (some .int), Cond.methodLink RX12 615 yX12_keyedMany, Cond.instanceMethod yX12_keyedMany, Cond.selects RX12 yX12_keyedMany yX12_keyedMany, Cond.code yX12_keyedMany cX12_keyedMany 3 (some .int), Cond.methodLink RL 100 yX11_key, Cond.instanceMethod yX11_key, Cond.selects RX11 yX11_key yX11_key]
def gR53 : List Cond := [Cond.code yX11_key cX11_key 5 (some .int), Cond.methodLink RL 104 yX12_key, Cond.instanceMethod yX12_key, Cond.selects RX12 yX12_key yX12_key, Cond.code yX12_key cX12_key 5 (some .int), Cond.methodLink RL 105 yX11_delivered, Cond.instanceMethod yX11_delivered, Cond.selects RX11 yX11_delivered yX11_delivered, Cond.code yX11_delivered cX11_delivered 4 (some .int), Cond.methodLink RX11 287 yX3_detail, Cond.instanceMethod yX3_detail, Cond.selects RX3 yX3_detail yX3_detail, Cond.code yX3_detail cX3_detail 3 (some .int), Cond.methodLink RL 108 yX12_delivered, Cond.instanceMethod yX12_delivered, Cond.selects RX12 yX12_delivered yX12_delivered, Cond.code yX12_delivered cX12_delivered 5 (some .int), Cond.constantLong RX12 618 (10), Cond.constantLong RX12 620 (9), Cond.methodLink RL 109 yX11_air, Cond.instanceMethod yX11_air, Cond.selects RX11 yX11_air yX11_air, Cond.code yX11_air cX11_air 4 (some .int), Cond.methodLink RX11 291 yX5_detail]
def gR54 : List Cond := [Cond.instanceMethod yX5_detail, Cond.selects RX5 yX5_detail yX5_detail, Cond.code yX5_detail cX5_detail 3 (some .int), Cond.methodLink RL 112 yX12_air, Cond.instanceMethod yX12_air, Cond.selects RX12 yX12_air yX12_air, Cond.code yX12_air cX12_air 4 (some .int), Cond.methodLink RL 113 yX11_count, Cond.instanceMethod yX11_count, Cond.selects RX11 yX11_count yX11_count, Cond.code yX11_count cX11_count 2 (some .int), Cond.fieldLink RX11 292 "WirelessCell$Medium" "notClean" "I", Cond.fieldLink RX11 295 "WirelessCell$Medium" "quietSlots" "I", Cond.methodLink RL 116 yX12_count, Cond.instanceMethod yX12_count, Cond.selects RX12 yX12_count yX12_count, Cond.code yX12_count cX12_count 2 (some .int)]
def gY : List Cond := wsX110 ++ (wsX120 ++ (wsX50 ++ (wsX80 ++ (wsX10 ++ (wsX100 ++ (wsX00 ++ (wsX70 ++ (wsX40 ++ (wsX90 ++ (wsX30 ++ (wsX60)))))))))))
def gG54 : List Cond := gR54 ++ gY
def gG53 : List Cond := gR53 ++ gG54
def gG52 : List Cond := gR52 ++ gG53
def gG51 : List Cond := gR51 ++ gG52
def gG50 : List Cond := gR50 ++ gG51
def gG49 : List Cond := gR49 ++ gG50
def gG48 : List Cond := gR48 ++ gG49
def gG47 : List Cond := gR47 ++ gG48
def gG46 : List Cond := gR46 ++ gG47
def gG45 : List Cond := gR45 ++ gG46
def gG44 : List Cond := gR44 ++ gG45
def gG43 : List Cond := gR43 ++ gG44
def gG42 : List Cond := gR42 ++ gG43
def gG41 : List Cond := gR41 ++ gG42
def gG40 : List Cond := gR40 ++ gG41
def gG39 : List Cond := gR39 ++ gG40
def gG38 : List Cond := gR38 ++ gG39
def gG37 : List Cond := gR37 ++ gG38
def gG36 : List Cond := gR36 ++ gG37
def gG35 : List Cond := gR35 ++ gG36
def gG34 : List Cond := gR34 ++ gG35
def gG33 : List Cond := gR33 ++ gG34
def gG32 : List Cond := gR32 ++ gG33
def gG31 : List Cond := gR31 ++ gG32
def gG30 : List Cond := gR30 ++ gG31
def gG29 : List Cond := gR29 ++ gG30
def gG28 : List Cond := gR28 ++ gG29
def gG27 : List Cond := gR27 ++ gG28
def gG26 : List Cond := gR26 ++ gG27
def gG25 : List Cond := gR25 ++ gG26
def gG24 : List Cond := gR24 ++ gG25
def gG23 : List Cond := gR23 ++ gG24
def gG22 : List Cond := gR22 ++ gG23
def gG21 : List Cond := gR21 ++ gG22
def gG20 : List Cond := gR20 ++ gG21
def gG19 : List Cond := gR19 ++ gG20
def gG18 : List Cond := gR18 ++ gG19
def gG17 : List Cond := gR17 ++ gG18
def gG16 : List Cond := gR16 ++ gG17
def gG15 : List Cond := gR15 ++ gG16
def gG14 : List Cond := gR14 ++ gG15
def gG13 : List Cond := gR13 ++ gG14
def gG12 : List Cond := gR12 ++ gG13
def gG11 : List Cond := gR11 ++ gG12
def gG10 : List Cond := gR10 ++ gG11
def gG9 : List Cond := gR9 ++ gG10
def gG8 : List Cond := gR8 ++ gG9
def gG7 : List Cond := gR7 ++ gG8
def gG6 : List Cond := gR6 ++ gG7
def gG5 : List Cond := gR5 ++ gG6
def gG4 : List Cond := gR4 ++ gG5
def gG3 : List Cond := gR3 ++ gG4
def gG2 : List Cond := gR2 ++ gG3
def gG1 : List Cond := gR1 ++ gG2
def gG0 : List Cond := gR0 ++ gG1
def GW : List Cond := gG0
theorem mG0 {w : Cond} (h : w ∈ gG0) : w ∈ GW := h
theorem mG1 {w : Cond} (h : w ∈ gG1) : w ∈ GW := mG0 (List.mem_append_right _ h)
theorem mG2 {w : Cond} (h : w ∈ gG2) : w ∈ GW := mG1 (List.mem_append_right _ h)
theorem mG3 {w : Cond} (h : w ∈ gG3) : w ∈ GW := mG2 (List.mem_append_right _ h)
theorem mG4 {w : Cond} (h : w ∈ gG4) : w ∈ GW := mG3 (List.mem_append_right _ h)
theorem mG5 {w : Cond} (h : w ∈ gG5) : w ∈ GW := mG4 (List.mem_append_right _ h)
theorem mG6 {w : Cond} (h : w ∈ gG6) : w ∈ GW := mG5 (List.mem_append_right _ h)
theorem mG7 {w : Cond} (h : w ∈ gG7) : w ∈ GW := mG6 (List.mem_append_right _ h)
theorem mG8 {w : Cond} (h : w ∈ gG8) : w ∈ GW := mG7 (List.mem_append_right _ h)
theorem mG9 {w : Cond} (h : w ∈ gG9) : w ∈ GW := mG8 (List.mem_append_right _ h)
theorem mG10 {w : Cond} (h : w ∈ gG10) : w ∈ GW := mG9 (List.mem_append_right _ h)
theorem mG11 {w : Cond} (h : w ∈ gG11) : w ∈ GW := mG10 (List.mem_append_right _ h)
theorem mG12 {w : Cond} (h : w ∈ gG12) : w ∈ GW := mG11 (List.mem_append_right _ h)
theorem mG13 {w : Cond} (h : w ∈ gG13) : w ∈ GW := mG12 (List.mem_append_right _ h)
theorem mG14 {w : Cond} (h : w ∈ gG14) : w ∈ GW := mG13 (List.mem_append_right _ h)
theorem mG15 {w : Cond} (h : w ∈ gG15) : w ∈ GW := mG14 (List.mem_append_right _ h)
theorem mG16 {w : Cond} (h : w ∈ gG16) : w ∈ GW := mG15 (List.mem_append_right _ h)
theorem mG17 {w : Cond} (h : w ∈ gG17) : w ∈ GW := mG16 (List.mem_append_right _ h)
theorem mG18 {w : Cond} (h : w ∈ gG18) : w ∈ GW := mG17 (List.mem_append_right _ h)
theorem mG19 {w : Cond} (h : w ∈ gG19) : w ∈ GW := mG18 (List.mem_append_right _ h)
theorem mG20 {w : Cond} (h : w ∈ gG20) : w ∈ GW := mG19 (List.mem_append_right _ h)
theorem mG21 {w : Cond} (h : w ∈ gG21) : w ∈ GW := mG20 (List.mem_append_right _ h)
theorem mG22 {w : Cond} (h : w ∈ gG22) : w ∈ GW := mG21 (List.mem_append_right _ h)
theorem mG23 {w : Cond} (h : w ∈ gG23) : w ∈ GW := mG22 (List.mem_append_right _ h)
theorem mG24 {w : Cond} (h : w ∈ gG24) : w ∈ GW := mG23 (List.mem_append_right _ h)
theorem mG25 {w : Cond} (h : w ∈ gG25) : w ∈ GW := mG24 (List.mem_append_right _ h)
theorem mG26 {w : Cond} (h : w ∈ gG26) : w ∈ GW := mG25 (List.mem_append_right _ h)
theorem mG27 {w : Cond} (h : w ∈ gG27) : w ∈ GW := mG26 (List.mem_append_right _ h)
theorem mG28 {w : Cond} (h : w ∈ gG28) : w ∈ GW := mG27 (List.mem_append_right _ h)
theorem mG29 {w : Cond} (h : w ∈ gG29) : w ∈ GW := mG28 (List.mem_append_right _ h)
theorem mG30 {w : Cond} (h : w ∈ gG30) : w ∈ GW := mG29 (List.mem_append_right _ h)
theorem mG31 {w : Cond} (h : w ∈ gG31) : w ∈ GW := mG30 (List.mem_append_right _ h)
theorem mG32 {w : Cond} (h : w ∈ gG32) : w ∈ GW := mG31 (List.mem_append_right _ h)
theorem mG33 {w : Cond} (h : w ∈ gG33) : w ∈ GW := mG32 (List.mem_append_right _ h)
theorem mG34 {w : Cond} (h : w ∈ gG34) : w ∈ GW := mG33 (List.mem_append_right _ h)
theorem mG35 {w : Cond} (h : w ∈ gG35) : w ∈ GW := mG34 (List.mem_append_right _ h)
theorem mG36 {w : Cond} (h : w ∈ gG36) : w ∈ GW := mG35 (List.mem_append_right _ h)
theorem mG37 {w : Cond} (h : w ∈ gG37) : w ∈ GW := mG36 (List.mem_append_right _ h)
theorem mG38 {w : Cond} (h : w ∈ gG38) : w ∈ GW := mG37 (List.mem_append_right _ h)
theorem mG39 {w : Cond} (h : w ∈ gG39) : w ∈ GW := mG38 (List.mem_append_right _ h)
theorem mG40 {w : Cond} (h : w ∈ gG40) : w ∈ GW := mG39 (List.mem_append_right _ h)
theorem mG41 {w : Cond} (h : w ∈ gG41) : w ∈ GW := mG40 (List.mem_append_right _ h)
theorem mG42 {w : Cond} (h : w ∈ gG42) : w ∈ GW := mG41 (List.mem_append_right _ h)
theorem mG43 {w : Cond} (h : w ∈ gG43) : w ∈ GW := mG42 (List.mem_append_right _ h)
theorem mG44 {w : Cond} (h : w ∈ gG44) : w ∈ GW := mG43 (List.mem_append_right _ h)
theorem mG45 {w : Cond} (h : w ∈ gG45) : w ∈ GW := mG44 (List.mem_append_right _ h)
theorem mG46 {w : Cond} (h : w ∈ gG46) : w ∈ GW := mG45 (List.mem_append_right _ h)
theorem mG47 {w : Cond} (h : w ∈ gG47) : w ∈ GW := mG46 (List.mem_append_right _ h)
theorem mG48 {w : Cond} (h : w ∈ gG48) : w ∈ GW := mG47 (List.mem_append_right _ h)
theorem mG49 {w : Cond} (h : w ∈ gG49) : w ∈ GW := mG48 (List.mem_append_right _ h)
theorem mG50 {w : Cond} (h : w ∈ gG50) : w ∈ GW := mG49 (List.mem_append_right _ h)
theorem mG51 {w : Cond} (h : w ∈ gG51) : w ∈ GW := mG50 (List.mem_append_right _ h)
theorem mG52 {w : Cond} (h : w ∈ gG52) : w ∈ GW := mG51 (List.mem_append_right _ h)
theorem mG53 {w : Cond} (h : w ∈ gG53) : w ∈ GW := mG52 (List.mem_append_right _ h)
theorem mG54 {w : Cond} (h : w ∈ gG54) : w ∈ GW := mG53 (List.mem_append_right _ h)
theorem mGY {w : Cond} (h : w ∈ gY) : w ∈ GW := mG54 (List.mem_append_right _ h)
theorem gw0 : Cond.classLink RL 7 RX11 ∈ GW := mG0 (List.mem_append_left _ (List.mem_of_getElem? (i := 0) rfl))
theorem gw1 : Cond.instantiable RX11 17 ∈ GW := mG0 (List.mem_append_left _ (List.mem_of_getElem? (i := 1) rfl))
theorem gw2 : Cond.initialized RX11 ∈ GW := mG0 (List.mem_append_left _ (List.mem_of_getElem? (i := 2) rfl))
theorem gw3 : Cond.classLink RL 10 RX12 ∈ GW := mG0 (List.mem_append_left _ (List.mem_of_getElem? (i := 3) rfl))
theorem gw4 : Cond.instantiable RX12 107 ∈ GW := mG0 (List.mem_append_left _ (List.mem_of_getElem? (i := 4) rfl))
theorem gw5 : Cond.initialized RX12 ∈ GW := mG0 (List.mem_append_left _ (List.mem_of_getElem? (i := 5) rfl))
theorem gw6 : Cond.constantLong RL 41 (4294967295) ∈ GW := mG0 (List.mem_append_left _ (List.mem_of_getElem? (i := 6) rfl))
theorem gw7 : Cond.methodLink RL 9 yX11_init ∈ GW := mG0 (List.mem_append_left _ (List.mem_of_getElem? (i := 7) rfl))
theorem gw8 : Cond.instanceMethod yX11_init ∈ GW := mG0 (List.mem_append_left _ (List.mem_of_getElem? (i := 8) rfl))
theorem gw9 : Cond.code yX11_init cX11_init 2 none ∈ GW := mG0 (List.mem_append_left _ (List.mem_of_getElem? (i := 9) rfl))
theorem gw10 : Cond.methodLink RX11 1 objectInit ∈ GW := mG0 (List.mem_append_left _ (List.mem_of_getElem? (i := 10) rfl))
theorem gw11 : Cond.instanceMethod objectInit ∈ GW := mG0 (List.mem_append_left _ (List.mem_of_getElem? (i := 11) rfl))
theorem gw12 : Cond.code objectInit ⟨#[0xb1]⟩ 1 none ∈ GW := mG0 (List.mem_append_left _ (List.mem_of_getElem? (i := 12) rfl))
theorem gw13 : Cond.classLink RX11 9 RX7 ∈ GW := mG0 (List.mem_append_left _ (List.mem_of_getElem? (i := 13) rfl))
theorem gw14 : Cond.fieldLink RX11 11 "WirelessCell" "nodes" "[LWirelessCell$Node;" ∈ GW := mG0 (List.mem_append_left _ (List.mem_of_getElem? (i := 14) rfl))
theorem gw15 : Cond.classLink RX11 15 RX4 ∈ GW := mG0 (List.mem_append_left _ (List.mem_of_getElem? (i := 15) rfl))
theorem gw16 : Cond.fieldLink RX11 17 "WirelessCell" "bySelf" "[LWirelessCell$Link;" ∈ GW := mG0 (List.mem_append_left _ (List.mem_of_getElem? (i := 16) rfl))
theorem gw17 : Cond.fieldLink RX11 21 "WirelessCell" "byAp" "[LWirelessCell$Link;" ∈ GW := mG0 (List.mem_append_left _ (List.mem_of_getElem? (i := 17) rfl))
theorem gw18 : Cond.classLink RX11 24 RX5 ∈ GW := mG0 (List.mem_append_left _ (List.mem_of_getElem? (i := 18) rfl))
theorem gw19 : Cond.instantiable RX5 18 ∈ GW := mG0 (List.mem_append_left _ (List.mem_of_getElem? (i := 19) rfl))
theorem gw20 : Cond.initialized RX5 ∈ GW := mG0 (List.mem_append_left _ (List.mem_of_getElem? (i := 20) rfl))
theorem gw21 : Cond.fieldLink RX11 27 "WirelessCell" "medium" "LWirelessCell$Medium;" ∈ GW := mG0 (List.mem_append_left _ (List.mem_of_getElem? (i := 21) rfl))
theorem gw22 : Cond.classLink RX11 31 RX8 ∈ GW := mG0 (List.mem_append_left _ (List.mem_of_getElem? (i := 22) rfl))
theorem gw23 : Cond.instantiable RX8 4 ∈ GW := mG0 (List.mem_append_left _ (List.mem_of_getElem? (i := 23) rfl))
theorem gw24 : Cond.initialized RX8 ∈ GW := mG1 (List.mem_append_left _ (List.mem_of_getElem? (i := 0) rfl))
theorem gw25 : Cond.fieldLink RX11 34 "WirelessCell" "puts" "LWirelessCell$Puts;" ∈ GW := mG1 (List.mem_append_left _ (List.mem_of_getElem? (i := 1) rfl))
theorem gw26 : Cond.classLink RX11 38 RX1 ∈ GW := mG1 (List.mem_append_left _ (List.mem_of_getElem? (i := 2) rfl))
theorem gw27 : Cond.instantiable RX1 3 ∈ GW := mG1 (List.mem_append_left _ (List.mem_of_getElem? (i := 3) rfl))
theorem gw28 : Cond.initialized RX1 ∈ GW := mG1 (List.mem_append_left _ (List.mem_of_getElem? (i := 4) rfl))
theorem gw29 : Cond.fieldLink RX11 41 "WirelessCell" "draws" "LWirelessCell$Draws;" ∈ GW := mG1 (List.mem_append_left _ (List.mem_of_getElem? (i := 5) rfl))
theorem gw30 : Cond.classLink RX11 45 RX10 ∈ GW := mG1 (List.mem_append_left _ (List.mem_of_getElem? (i := 6) rfl))
theorem gw31 : Cond.instantiable RX10 6 ∈ GW := mG1 (List.mem_append_left _ (List.mem_of_getElem? (i := 7) rfl))
theorem gw32 : Cond.initialized RX10 ∈ GW := mG1 (List.mem_append_left _ (List.mem_of_getElem? (i := 8) rfl))
theorem gw33 : Cond.fieldLink RX11 48 "WirelessCell" "sha" "LWirelessCell$Sha;" ∈ GW := mG1 (List.mem_append_left _ (List.mem_of_getElem? (i := 9) rfl))
theorem gw34 : Cond.classLink RX11 52 RX0 ∈ GW := mG1 (List.mem_append_left _ (List.mem_of_getElem? (i := 10) rfl))
theorem gw35 : Cond.instantiable RX0 5 ∈ GW := mG1 (List.mem_append_left _ (List.mem_of_getElem? (i := 11) rfl))
theorem gw36 : Cond.initialized RX0 ∈ GW := mG1 (List.mem_append_left _ (List.mem_of_getElem? (i := 12) rfl))
theorem gw37 : Cond.fieldLink RX11 55 "WirelessCell" "ccm" "LWirelessCell$Ccm;" ∈ GW := mG1 (List.mem_append_left _ (List.mem_of_getElem? (i := 13) rfl))
theorem gw38 : Cond.arrayClass .int ∈ GW := mG1 (List.mem_append_left _ (List.mem_of_getElem? (i := 14) rfl))
theorem gw39 : Cond.fieldLink RX11 59 "WirelessCell" "tape" "[I" ∈ GW := mG1 (List.mem_append_left _ (List.mem_of_getElem? (i := 15) rfl))
theorem gw40 : Cond.fieldLink RX11 63 "WirelessCell" "ends" "[I" ∈ GW := mG1 (List.mem_append_left _ (List.mem_of_getElem? (i := 16) rfl))
theorem gw41 : Cond.fieldLink RX11 66 "WirelessCell" "partSize" "I" ∈ GW := mG1 (List.mem_append_left _ (List.mem_of_getElem? (i := 17) rfl))
theorem gw42 : Cond.fieldLink RX11 70 "WirelessCell" "tryLimit" "I" ∈ GW := mG1 (List.mem_append_left _ (List.mem_of_getElem? (i := 18) rfl))
theorem gw43 : Cond.fieldLink RX11 73 "WirelessCell" "ackFrame" "[I" ∈ GW := mG1 (List.mem_append_left _ (List.mem_of_getElem? (i := 19) rfl))
theorem gw44 : Cond.fieldLink RX11 76 "WirelessCell" "bodyAsTold" "[I" ∈ GW := mG1 (List.mem_append_left _ (List.mem_of_getElem? (i := 20) rfl))
theorem gw45 : Cond.instantiable RX7 19 ∈ GW := mG1 (List.mem_append_left _ (List.mem_of_getElem? (i := 21) rfl))
theorem gw46 : Cond.initialized RX7 ∈ GW := mG1 (List.mem_append_left _ (List.mem_of_getElem? (i := 22) rfl))
theorem gw47 : Cond.instantiable RX4 14 ∈ GW := mG1 (List.mem_append_left _ (List.mem_of_getElem? (i := 23) rfl))
theorem gw48 : Cond.initialized RX4 ∈ GW := mG2 (List.mem_append_left _ (List.mem_of_getElem? (i := 0) rfl))
theorem gw49 : Cond.instanceMethod yX5_init ∈ GW := mG2 (List.mem_append_left _ (List.mem_of_getElem? (i := 1) rfl))
theorem gw50 : Cond.code yX5_init cX5_init 1 none ∈ GW := mG2 (List.mem_append_left _ (List.mem_of_getElem? (i := 2) rfl))
theorem gw51 : Cond.methodLink RX5 3 objectInit ∈ GW := mG2 (List.mem_append_left _ (List.mem_of_getElem? (i := 3) rfl))
theorem gw52 : Cond.classLink RX5 11 "[[I" ∈ GW := mG2 (List.mem_append_left _ (List.mem_of_getElem? (i := 4) rfl))
theorem gw53 : Cond.fieldLink RX5 13 "WirelessCell$Medium" "rows" "[[I" ∈ GW := mG2 (List.mem_append_left _ (List.mem_of_getElem? (i := 5) rfl))
theorem gw54 : Cond.fieldLink RX5 16 "WirelessCell$Medium" "lengths" "[I" ∈ GW := mG2 (List.mem_append_left _ (List.mem_of_getElem? (i := 6) rfl))
theorem gw55 : Cond.fieldLink RX5 20 "WirelessCell$Medium" "senders" "[I" ∈ GW := mG2 (List.mem_append_left _ (List.mem_of_getElem? (i := 7) rfl))
theorem gw56 : Cond.fieldLink RX5 23 "WirelessCell$Medium" "firstSlots" "[I" ∈ GW := mG2 (List.mem_append_left _ (List.mem_of_getElem? (i := 8) rfl))
theorem gw57 : Cond.fieldLink RX5 26 "WirelessCell$Medium" "lastSlots" "[I" ∈ GW := mG2 (List.mem_append_left _ (List.mem_of_getElem? (i := 9) rfl))
theorem gw58 : Cond.arrayClass .boolean ∈ GW := mG2 (List.mem_append_left _ (List.mem_of_getElem? (i := 10) rfl))
theorem gw59 : Cond.fieldLink RX5 29 "WirelessCell$Medium" "spoiled" "[Z" ∈ GW := mG2 (List.mem_append_left _ (List.mem_of_getElem? (i := 11) rfl))
theorem gw60 : Cond.fieldLink RX5 33 "WirelessCell$Medium" "newest" "I" ∈ GW := mG2 (List.mem_append_left _ (List.mem_of_getElem? (i := 12) rfl))
theorem gw61 : Cond.fieldLink RX5 37 "WirelessCell$Medium" "endings" "[I" ∈ GW := mG2 (List.mem_append_left _ (List.mem_of_getElem? (i := 13) rfl))
theorem gw62 : Cond.fieldLink RX5 40 "WirelessCell$Medium" "lastBusySlot" "I" ∈ GW := mG2 (List.mem_append_left _ (List.mem_of_getElem? (i := 14) rfl))
theorem gw63 : Cond.fieldLink RX5 43 "WirelessCell$Medium" "noiseFrom" "[I" ∈ GW := mG2 (List.mem_append_left _ (List.mem_of_getElem? (i := 15) rfl))
theorem gw64 : Cond.fieldLink RX5 46 "WirelessCell$Medium" "noiseTo" "[I" ∈ GW := mG2 (List.mem_append_left _ (List.mem_of_getElem? (i := 16) rfl))
theorem gw65 : Cond.instanceMethod yX8_init ∈ GW := mG2 (List.mem_append_left _ (List.mem_of_getElem? (i := 17) rfl))
theorem gw66 : Cond.code yX8_init cX8_init 1 none ∈ GW := mG2 (List.mem_append_left _ (List.mem_of_getElem? (i := 18) rfl))
theorem gw67 : Cond.methodLink RX8 3 objectInit ∈ GW := mG2 (List.mem_append_left _ (List.mem_of_getElem? (i := 19) rfl))
theorem gw68 : Cond.classLink RX8 11 "[[I" ∈ GW := mG2 (List.mem_append_left _ (List.mem_of_getElem? (i := 20) rfl))
theorem gw69 : Cond.fieldLink RX8 13 "WirelessCell$Puts" "rows" "[[I" ∈ GW := mG2 (List.mem_append_left _ (List.mem_of_getElem? (i := 21) rfl))
theorem gw70 : Cond.fieldLink RX8 16 "WirelessCell$Puts" "lengths" "[I" ∈ GW := mG2 (List.mem_append_left _ (List.mem_of_getElem? (i := 22) rfl))
theorem gw71 : Cond.fieldLink RX8 20 "WirelessCell$Puts" "slots" "[I" ∈ GW := mG2 (List.mem_append_left _ (List.mem_of_getElem? (i := 23) rfl))
theorem gw72 : Cond.instanceMethod yX1_init ∈ GW := mG3 (List.mem_append_left _ (List.mem_of_getElem? (i := 0) rfl))
theorem gw73 : Cond.code yX1_init cX1_init 1 none ∈ GW := mG3 (List.mem_append_left _ (List.mem_of_getElem? (i := 1) rfl))
theorem gw74 : Cond.methodLink RX1 1 objectInit ∈ GW := mG3 (List.mem_append_left _ (List.mem_of_getElem? (i := 2) rfl))
theorem gw75 : Cond.fieldLink RX1 9 "WirelessCell$Draws" "values" "[I" ∈ GW := mG3 (List.mem_append_left _ (List.mem_of_getElem? (i := 3) rfl))
theorem gw76 : Cond.instanceMethod yX10_init ∈ GW := mG3 (List.mem_append_left _ (List.mem_of_getElem? (i := 4) rfl))
theorem gw77 : Cond.code yX10_init cX10_init 1 none ∈ GW := mG3 (List.mem_append_left _ (List.mem_of_getElem? (i := 5) rfl))
theorem gw78 : Cond.methodLink RX10 3 objectInit ∈ GW := mG3 (List.mem_append_left _ (List.mem_of_getElem? (i := 6) rfl))
theorem gw79 : Cond.fieldLink RX10 11 "WirelessCell$Sha" "digest" "[I" ∈ GW := mG3 (List.mem_append_left _ (List.mem_of_getElem? (i := 7) rfl))
theorem gw80 : Cond.fieldLink RX10 15 "WirelessCell$Sha" "ptk" "[I" ∈ GW := mG3 (List.mem_append_left _ (List.mem_of_getElem? (i := 8) rfl))
theorem gw81 : Cond.fieldLink RX10 18 "WirelessCell$Sha" "seed" "[I" ∈ GW := mG3 (List.mem_append_left _ (List.mem_of_getElem? (i := 9) rfl))
theorem gw82 : Cond.fieldLink RX10 21 "WirelessCell$Sha" "text" "[I" ∈ GW := mG3 (List.mem_append_left _ (List.mem_of_getElem? (i := 10) rfl))
theorem gw83 : Cond.fieldLink RX10 24 "WirelessCell$Sha" "words" "[I" ∈ GW := mG3 (List.mem_append_left _ (List.mem_of_getElem? (i := 11) rfl))
theorem gw84 : Cond.fieldLink RX10 27 "WirelessCell$Sha" "state" "[I" ∈ GW := mG3 (List.mem_append_left _ (List.mem_of_getElem? (i := 12) rfl))
theorem gw85 : Cond.instanceMethod yX0_init ∈ GW := mG3 (List.mem_append_left _ (List.mem_of_getElem? (i := 13) rfl))
theorem gw86 : Cond.code yX0_init cX0_init 1 none ∈ GW := mG3 (List.mem_append_left _ (List.mem_of_getElem? (i := 14) rfl))
theorem gw87 : Cond.methodLink RX0 3 objectInit ∈ GW := mG3 (List.mem_append_left _ (List.mem_of_getElem? (i := 15) rfl))
theorem gw88 : Cond.fieldLink RX0 9 "WirelessCell$Ccm" "plain" "[I" ∈ GW := mG3 (List.mem_append_left _ (List.mem_of_getElem? (i := 16) rfl))
theorem gw89 : Cond.fieldLink RX0 15 "WirelessCell$Ccm" "mac" "[I" ∈ GW := mG3 (List.mem_append_left _ (List.mem_of_getElem? (i := 17) rfl))
theorem gw90 : Cond.fieldLink RX0 18 "WirelessCell$Ccm" "stream" "[I" ∈ GW := mG3 (List.mem_append_left _ (List.mem_of_getElem? (i := 18) rfl))
theorem gw91 : Cond.fieldLink RX0 21 "WirelessCell$Ccm" "turned" "[I" ∈ GW := mG3 (List.mem_append_left _ (List.mem_of_getElem? (i := 19) rfl))
theorem gw92 : Cond.fieldLink RX0 24 "WirelessCell$Ccm" "roundKeys" "[I" ∈ GW := mG3 (List.mem_append_left _ (List.mem_of_getElem? (i := 20) rfl))
theorem gw93 : Cond.methodLink RX11 79 yX7_init ∈ GW := mG3 (List.mem_append_left _ (List.mem_of_getElem? (i := 21) rfl))
theorem gw94 : Cond.instanceMethod yX7_init ∈ GW := mG3 (List.mem_append_left _ (List.mem_of_getElem? (i := 22) rfl))
theorem gw95 : Cond.code yX7_init cX7_init 2 none ∈ GW := mG3 (List.mem_append_left _ (List.mem_of_getElem? (i := 23) rfl))
theorem gw96 : Cond.methodLink RX7 3 objectInit ∈ GW := mG4 (List.mem_append_left _ (List.mem_of_getElem? (i := 0) rfl))
theorem gw97 : Cond.fieldLink RX7 9 "WirelessCell$Node" "nonce" "[I" ∈ GW := mG4 (List.mem_append_left _ (List.mem_of_getElem? (i := 1) rfl))
theorem gw98 : Cond.classLink RX7 15 RX9 ∈ GW := mG4 (List.mem_append_left _ (List.mem_of_getElem? (i := 2) rfl))
theorem gw99 : Cond.instantiable RX9 4 ∈ GW := mG4 (List.mem_append_left _ (List.mem_of_getElem? (i := 3) rfl))
theorem gw100 : Cond.initialized RX9 ∈ GW := mG4 (List.mem_append_left _ (List.mem_of_getElem? (i := 4) rfl))
theorem gw101 : Cond.fieldLink RX7 18 "WirelessCell$Node" "queue" "LWirelessCell$Queue;" ∈ GW := mG4 (List.mem_append_left _ (List.mem_of_getElem? (i := 5) rfl))
theorem gw102 : Cond.classLink RX7 22 RX3 ∈ GW := mG4 (List.mem_append_left _ (List.mem_of_getElem? (i := 6) rfl))
theorem gw103 : Cond.instantiable RX3 4 ∈ GW := mG4 (List.mem_append_left _ (List.mem_of_getElem? (i := 7) rfl))
theorem gw104 : Cond.initialized RX3 ∈ GW := mG4 (List.mem_append_left _ (List.mem_of_getElem? (i := 8) rfl))
theorem gw105 : Cond.fieldLink RX7 25 "WirelessCell$Node" "inbox" "LWirelessCell$Inbox;" ∈ GW := mG4 (List.mem_append_left _ (List.mem_of_getElem? (i := 9) rfl))
theorem gw106 : Cond.fieldLink RX7 29 "WirelessCell$Node" "latest" "[I" ∈ GW := mG4 (List.mem_append_left _ (List.mem_of_getElem? (i := 10) rfl))
theorem gw107 : Cond.fieldLink RX7 32 "WirelessCell$Node" "cw" "I" ∈ GW := mG4 (List.mem_append_left _ (List.mem_of_getElem? (i := 11) rfl))
theorem gw108 : Cond.fieldLink RX7 36 "WirelessCell$Node" "dueSlot" "I" ∈ GW := mG4 (List.mem_append_left _ (List.mem_of_getElem? (i := 12) rfl))
theorem gw109 : Cond.fieldLink RX7 39 "WirelessCell$Node" "ackTo" "[I" ∈ GW := mG4 (List.mem_append_left _ (List.mem_of_getElem? (i := 13) rfl))
theorem gw110 : Cond.fieldLink RX7 42 "WirelessCell$Node" "lastSendSlot" "I" ∈ GW := mG4 (List.mem_append_left _ (List.mem_of_getElem? (i := 14) rfl))
theorem gw111 : Cond.fieldLink RX7 45 "WirelessCell$Node" "waitsFrom" "I" ∈ GW := mG4 (List.mem_append_left _ (List.mem_of_getElem? (i := 15) rfl))
theorem gw112 : Cond.fieldLink RX7 48 "WirelessCell$Node" "frame" "[I" ∈ GW := mG4 (List.mem_append_left _ (List.mem_of_getElem? (i := 16) rfl))
theorem gw113 : Cond.fieldLink RX7 51 "WirelessCell$Node" "number" "I" ∈ GW := mG4 (List.mem_append_left _ (List.mem_of_getElem? (i := 17) rfl))
theorem gw114 : Cond.methodLink RX7 17 yX9_init ∈ GW := mG4 (List.mem_append_left _ (List.mem_of_getElem? (i := 18) rfl))
theorem gw115 : Cond.instanceMethod yX9_init ∈ GW := mG4 (List.mem_append_left _ (List.mem_of_getElem? (i := 19) rfl))
theorem gw116 : Cond.code yX9_init cX9_init 2 none ∈ GW := mG4 (List.mem_append_left _ (List.mem_of_getElem? (i := 20) rfl))
theorem gw117 : Cond.methodLink RX9 1 objectInit ∈ GW := mG4 (List.mem_append_left _ (List.mem_of_getElem? (i := 21) rfl))
theorem gw118 : Cond.classLink RX9 9 RX6 ∈ GW := mG4 (List.mem_append_left _ (List.mem_of_getElem? (i := 22) rfl))
theorem gw119 : Cond.fieldLink RX9 11 "WirelessCell$Queue" "rows" "[LWirelessCell$Message;" ∈ GW := mG4 (List.mem_append_left _ (List.mem_of_getElem? (i := 23) rfl))
theorem gw120 : Cond.instantiable RX6 9 ∈ GW := mG5 (List.mem_append_left _ (List.mem_of_getElem? (i := 0) rfl))
theorem gw121 : Cond.initialized RX6 ∈ GW := mG5 (List.mem_append_left _ (List.mem_of_getElem? (i := 1) rfl))
theorem gw122 : Cond.instanceMethod yX6_init ∈ GW := mG5 (List.mem_append_left _ (List.mem_of_getElem? (i := 2) rfl))
theorem gw123 : Cond.code yX6_init cX6_init 1 none ∈ GW := mG5 (List.mem_append_left _ (List.mem_of_getElem? (i := 3) rfl))
theorem gw124 : Cond.methodLink RX6 3 objectInit ∈ GW := mG5 (List.mem_append_left _ (List.mem_of_getElem? (i := 4) rfl))
theorem gw125 : Cond.fieldLink RX6 9 "WirelessCell$Message" "bytes" "[I" ∈ GW := mG5 (List.mem_append_left _ (List.mem_of_getElem? (i := 5) rfl))
theorem gw126 : Cond.instanceMethod yX3_init ∈ GW := mG5 (List.mem_append_left _ (List.mem_of_getElem? (i := 6) rfl))
theorem gw127 : Cond.code yX3_init cX3_init 1 none ∈ GW := mG5 (List.mem_append_left _ (List.mem_of_getElem? (i := 7) rfl))
theorem gw128 : Cond.methodLink RX3 3 objectInit ∈ GW := mG5 (List.mem_append_left _ (List.mem_of_getElem? (i := 8) rfl))
theorem gw129 : Cond.classLink RX3 11 "[[I" ∈ GW := mG5 (List.mem_append_left _ (List.mem_of_getElem? (i := 9) rfl))
theorem gw130 : Cond.fieldLink RX3 13 "WirelessCell$Inbox" "said" "[[I" ∈ GW := mG5 (List.mem_append_left _ (List.mem_of_getElem? (i := 10) rfl))
theorem gw131 : Cond.fieldLink RX3 16 "WirelessCell$Inbox" "lengths" "[I" ∈ GW := mG5 (List.mem_append_left _ (List.mem_of_getElem? (i := 11) rfl))
theorem gw132 : Cond.fieldLink RX3 20 "WirelessCell$Inbox" "speakers" "[I" ∈ GW := mG5 (List.mem_append_left _ (List.mem_of_getElem? (i := 12) rfl))
theorem gw133 : Cond.methodLink RX7 54 yJ7_fill_53178 ∈ GW := mG5 (List.mem_append_left _ (List.mem_of_getElem? (i := 13) rfl))
theorem gw134 : Cond.static yJ7_fill_53178 ∈ GW := mG5 (List.mem_append_left _ (List.mem_of_getElem? (i := 14) rfl))
theorem gw135 : Cond.initialized RJ7 ∈ GW := mG5 (List.mem_append_left _ (List.mem_of_getElem? (i := 15) rfl))
theorem gw136 : Cond.code yJ7_fill_53178 cJ7_fill_53178 4 none ∈ GW := mG5 (List.mem_append_left _ (List.mem_of_getElem? (i := 16) rfl))
theorem gw137 : Cond.instanceMethod yX4_init ∈ GW := mG5 (List.mem_append_left _ (List.mem_of_getElem? (i := 17) rfl))
theorem gw138 : Cond.code yX4_init cX4_init 1 none ∈ GW := mG5 (List.mem_append_left _ (List.mem_of_getElem? (i := 18) rfl))
theorem gw139 : Cond.methodLink RX4 3 objectInit ∈ GW := mG5 (List.mem_append_left _ (List.mem_of_getElem? (i := 19) rfl))
theorem gw140 : Cond.fieldLink RX4 9 "WirelessCell$Link" "state" "I" ∈ GW := mG5 (List.mem_append_left _ (List.mem_of_getElem? (i := 20) rfl))
theorem gw141 : Cond.fieldLink RX4 15 "WirelessCell$Link" "secret" "[I" ∈ GW := mG5 (List.mem_append_left _ (List.mem_of_getElem? (i := 21) rfl))
theorem gw142 : Cond.fieldLink RX4 21 "WirelessCell$Link" "tried" "[I" ∈ GW := mG5 (List.mem_append_left _ (List.mem_of_getElem? (i := 22) rfl))
theorem gw143 : Cond.fieldLink RX4 24 "WirelessCell$Link" "triedNonce" "[I" ∈ GW := mG5 (List.mem_append_left _ (List.mem_of_getElem? (i := 23) rfl))
theorem gw144 : Cond.fieldLink RX4 27 "WirelessCell$Link" "tk" "[I" ∈ GW := mG6 (List.mem_append_left _ (List.mem_of_getElem? (i := 0) rfl))
theorem gw145 : Cond.fieldLink RX4 30 "WirelessCell$Link" "nextToSeal" "J" ∈ GW := mG6 (List.mem_append_left _ (List.mem_of_getElem? (i := 1) rfl))
theorem gw146 : Cond.fieldLink RX4 34 "WirelessCell$Link" "bytes" "[I" ∈ GW := mG6 (List.mem_append_left _ (List.mem_of_getElem? (i := 2) rfl))
theorem gw147 : Cond.methodLink RL 12 yX12_init ∈ GW := mG6 (List.mem_append_left _ (List.mem_of_getElem? (i := 3) rfl))
theorem gw148 : Cond.instanceMethod yX12_init ∈ GW := mG6 (List.mem_append_left _ (List.mem_of_getElem? (i := 4) rfl))
theorem gw149 : Cond.code yX12_init cX12_init 2 none ∈ GW := mG6 (List.mem_append_left _ (List.mem_of_getElem? (i := 5) rfl))
theorem gw150 : Cond.methodLink RX12 1 objectInit ∈ GW := mG6 (List.mem_append_left _ (List.mem_of_getElem? (i := 6) rfl))
theorem gw151 : Cond.fieldLink RX12 7 "WirelessCellModel" "h" "[I" ∈ GW := mG6 (List.mem_append_left _ (List.mem_of_getElem? (i := 7) rfl))
theorem gw152 : Cond.fieldLink RX12 13 "WirelessCellModel" "w" "[I" ∈ GW := mG6 (List.mem_append_left _ (List.mem_of_getElem? (i := 8) rfl))
theorem gw153 : Cond.fieldLink RX12 16 "WirelessCellModel" "block" "[I" ∈ GW := mG6 (List.mem_append_left _ (List.mem_of_getElem? (i := 9) rfl))
theorem gw154 : Cond.fieldLink RX12 19 "WirelessCellModel" "digest" "[I" ∈ GW := mG6 (List.mem_append_left _ (List.mem_of_getElem? (i := 10) rfl))
theorem gw155 : Cond.fieldLink RX12 22 "WirelessCellModel" "macKey" "[I" ∈ GW := mG6 (List.mem_append_left _ (List.mem_of_getElem? (i := 11) rfl))
theorem gw156 : Cond.fieldLink RX12 25 "WirelessCellModel" "inner" "[I" ∈ GW := mG6 (List.mem_append_left _ (List.mem_of_getElem? (i := 12) rfl))
theorem gw157 : Cond.fieldLink RX12 28 "WirelessCellModel" "box" "[I" ∈ GW := mG6 (List.mem_append_left _ (List.mem_of_getElem? (i := 13) rfl))
theorem gw158 : Cond.fieldLink RX12 31 "WirelessCellModel" "schedule" "[I" ∈ GW := mG6 (List.mem_append_left _ (List.mem_of_getElem? (i := 14) rfl))
theorem gw159 : Cond.fieldLink RX12 34 "WirelessCellModel" "cells" "[I" ∈ GW := mG6 (List.mem_append_left _ (List.mem_of_getElem? (i := 15) rfl))
theorem gw160 : Cond.fieldLink RX12 37 "WirelessCellModel" "moved" "[I" ∈ GW := mG6 (List.mem_append_left _ (List.mem_of_getElem? (i := 16) rfl))
theorem gw161 : Cond.fieldLink RX12 40 "WirelessCellModel" "number" "[I" ∈ GW := mG6 (List.mem_append_left _ (List.mem_of_getElem? (i := 17) rfl))
theorem gw162 : Cond.fieldLink RX12 43 "WirelessCellModel" "chain" "[I" ∈ GW := mG6 (List.mem_append_left _ (List.mem_of_getElem? (i := 18) rfl))
theorem gw163 : Cond.fieldLink RX12 46 "WirelessCellModel" "stream" "[I" ∈ GW := mG6 (List.mem_append_left _ (List.mem_of_getElem? (i := 19) rfl))
theorem gw164 : Cond.fieldLink RX12 49 "WirelessCellModel" "tag" "[I" ∈ GW := mG6 (List.mem_append_left _ (List.mem_of_getElem? (i := 20) rfl))
theorem gw165 : Cond.fieldLink RX12 52 "WirelessCellModel" "tape" "[I" ∈ GW := mG6 (List.mem_append_left _ (List.mem_of_getElem? (i := 21) rfl))
theorem gw166 : Cond.fieldLink RX12 55 "WirelessCellModel" "secrets" "[I" ∈ GW := mG6 (List.mem_append_left _ (List.mem_of_getElem? (i := 22) rfl))
theorem gw167 : Cond.fieldLink RX12 58 "WirelessCellModel" "nonces" "[I" ∈ GW := mG6 (List.mem_append_left _ (List.mem_of_getElem? (i := 23) rfl))
theorem gw168 : Cond.fieldLink RX12 61 "WirelessCellModel" "state" "[I" ∈ GW := mG7 (List.mem_append_left _ (List.mem_of_getElem? (i := 0) rfl))
theorem gw169 : Cond.fieldLink RX12 64 "WirelessCellModel" "asState" "[I" ∈ GW := mG7 (List.mem_append_left _ (List.mem_of_getElem? (i := 1) rfl))
theorem gw170 : Cond.fieldLink RX12 67 "WirelessCellModel" "asked" "[Z" ∈ GW := mG7 (List.mem_append_left _ (List.mem_of_getElem? (i := 2) rfl))
theorem gw171 : Cond.fieldLink RX12 71 "WirelessCellModel" "tk" "[I" ∈ GW := mG7 (List.mem_append_left _ (List.mem_of_getElem? (i := 3) rfl))
theorem gw172 : Cond.fieldLink RX12 74 "WirelessCellModel" "hasKey" "[Z" ∈ GW := mG7 (List.mem_append_left _ (List.mem_of_getElem? (i := 4) rfl))
theorem gw173 : Cond.fieldLink RX12 77 "WirelessCellModel" "tried" "[I" ∈ GW := mG7 (List.mem_append_left _ (List.mem_of_getElem? (i := 5) rfl))
theorem gw174 : Cond.fieldLink RX12 80 "WirelessCellModel" "hasTried" "[Z" ∈ GW := mG7 (List.mem_append_left _ (List.mem_of_getElem? (i := 6) rfl))
theorem gw175 : Cond.fieldLink RX12 83 "WirelessCellModel" "triedNonce" "[I" ∈ GW := mG7 (List.mem_append_left _ (List.mem_of_getElem? (i := 7) rfl))
theorem gw176 : Cond.arrayClass .long ∈ GW := mG7 (List.mem_append_left _ (List.mem_of_getElem? (i := 8) rfl))
theorem gw177 : Cond.fieldLink RX12 86 "WirelessCellModel" "pnTaken" "[J" ∈ GW := mG7 (List.mem_append_left _ (List.mem_of_getElem? (i := 9) rfl))
theorem gw178 : Cond.fieldLink RX12 90 "WirelessCellModel" "pnNext" "[J" ∈ GW := mG7 (List.mem_append_left _ (List.mem_of_getElem? (i := 10) rfl))
theorem gw179 : Cond.fieldLink RX12 93 "WirelessCellModel" "begun" "[Z" ∈ GW := mG7 (List.mem_append_left _ (List.mem_of_getElem? (i := 11) rfl))
theorem gw180 : Cond.fieldLink RX12 96 "WirelessCellModel" "begunSeq" "[I" ∈ GW := mG7 (List.mem_append_left _ (List.mem_of_getElem? (i := 12) rfl))
theorem gw181 : Cond.fieldLink RX12 99 "WirelessCellModel" "begunNext" "[I" ∈ GW := mG7 (List.mem_append_left _ (List.mem_of_getElem? (i := 13) rfl))
theorem gw182 : Cond.fieldLink RX12 102 "WirelessCellModel" "begunLen" "[I" ∈ GW := mG7 (List.mem_append_left _ (List.mem_of_getElem? (i := 14) rfl))
theorem gw183 : Cond.fieldLink RX12 105 "WirelessCellModel" "begunBytes" "[I" ∈ GW := mG7 (List.mem_append_left _ (List.mem_of_getElem? (i := 15) rfl))
theorem gw184 : Cond.fieldLink RX12 108 "WirelessCellModel" "fresh" "[I" ∈ GW := mG7 (List.mem_append_left _ (List.mem_of_getElem? (i := 16) rfl))
theorem gw185 : Cond.fieldLink RX12 111 "WirelessCellModel" "qMany" "[I" ∈ GW := mG7 (List.mem_append_left _ (List.mem_of_getElem? (i := 17) rfl))
theorem gw186 : Cond.fieldLink RX12 114 "WirelessCellModel" "qType" "[I" ∈ GW := mG7 (List.mem_append_left _ (List.mem_of_getElem? (i := 18) rfl))
theorem gw187 : Cond.fieldLink RX12 117 "WirelessCellModel" "qTo" "[I" ∈ GW := mG7 (List.mem_append_left _ (List.mem_of_getElem? (i := 19) rfl))
theorem gw188 : Cond.fieldLink RX12 120 "WirelessCellModel" "qThird" "[I" ∈ GW := mG7 (List.mem_append_left _ (List.mem_of_getElem? (i := 20) rfl))
theorem gw189 : Cond.fieldLink RX12 123 "WirelessCellModel" "qSeq" "[I" ∈ GW := mG7 (List.mem_append_left _ (List.mem_of_getElem? (i := 21) rfl))
theorem gw190 : Cond.fieldLink RX12 126 "WirelessCellModel" "qSize" "[I" ∈ GW := mG7 (List.mem_append_left _ (List.mem_of_getElem? (i := 22) rfl))
theorem gw191 : Cond.fieldLink RX12 129 "WirelessCellModel" "qLen" "[I" ∈ GW := mG7 (List.mem_append_left _ (List.mem_of_getElem? (i := 23) rfl))
theorem gw192 : Cond.fieldLink RX12 132 "WirelessCellModel" "qSub" "[I" ∈ GW := mG8 (List.mem_append_left _ (List.mem_of_getElem? (i := 0) rfl))
theorem gw193 : Cond.fieldLink RX12 135 "WirelessCellModel" "qBytes" "[I" ∈ GW := mG8 (List.mem_append_left _ (List.mem_of_getElem? (i := 1) rfl))
theorem gw194 : Cond.fieldLink RX12 138 "WirelessCellModel" "part" "[I" ∈ GW := mG8 (List.mem_append_left _ (List.mem_of_getElem? (i := 2) rfl))
theorem gw195 : Cond.fieldLink RX12 141 "WirelessCellModel" "isMade" "[Z" ∈ GW := mG8 (List.mem_append_left _ (List.mem_of_getElem? (i := 3) rfl))
theorem gw196 : Cond.fieldLink RX12 144 "WirelessCellModel" "frames" "[I" ∈ GW := mG8 (List.mem_append_left _ (List.mem_of_getElem? (i := 4) rfl))
theorem gw197 : Cond.fieldLink RX12 147 "WirelessCellModel" "frameLen" "[I" ∈ GW := mG8 (List.mem_append_left _ (List.mem_of_getElem? (i := 5) rfl))
theorem gw198 : Cond.fieldLink RX12 150 "WirelessCellModel" "seq" "[I" ∈ GW := mG8 (List.mem_append_left _ (List.mem_of_getElem? (i := 6) rfl))
theorem gw199 : Cond.fieldLink RX12 153 "WirelessCellModel" "backoff" "[I" ∈ GW := mG8 (List.mem_append_left _ (List.mem_of_getElem? (i := 7) rfl))
theorem gw200 : Cond.fieldLink RX12 156 "WirelessCellModel" "cw" "[I" ∈ GW := mG8 (List.mem_append_left _ (List.mem_of_getElem? (i := 8) rfl))
theorem gw201 : Cond.fieldLink RX12 159 "WirelessCellModel" "tries" "[I" ∈ GW := mG8 (List.mem_append_left _ (List.mem_of_getElem? (i := 9) rfl))
theorem gw202 : Cond.fieldLink RX12 162 "WirelessCellModel" "sizeNow" "I" ∈ GW := mG8 (List.mem_append_left _ (List.mem_of_getElem? (i := 10) rfl))
theorem gw203 : Cond.fieldLink RX12 166 "WirelessCellModel" "limit" "I" ∈ GW := mG8 (List.mem_append_left _ (List.mem_of_getElem? (i := 11) rfl))
theorem gw204 : Cond.fieldLink RX12 169 "WirelessCellModel" "draws" "[I" ∈ GW := mG8 (List.mem_append_left _ (List.mem_of_getElem? (i := 12) rfl))
theorem gw205 : Cond.fieldLink RX12 172 "WirelessCellModel" "ends" "[I" ∈ GW := mG8 (List.mem_append_left _ (List.mem_of_getElem? (i := 13) rfl))
theorem gw206 : Cond.fieldLink RX12 175 "WirelessCellModel" "message" "[I" ∈ GW := mG8 (List.mem_append_left _ (List.mem_of_getElem? (i := 14) rfl))
theorem gw207 : Cond.fieldLink RX12 178 "WirelessCellModel" "quiet" "I" ∈ GW := mG8 (List.mem_append_left _ (List.mem_of_getElem? (i := 15) rfl))
theorem gw208 : Cond.fieldLink RX12 181 "WirelessCellModel" "sending" "[I" ∈ GW := mG8 (List.mem_append_left _ (List.mem_of_getElem? (i := 16) rfl))
theorem gw209 : Cond.fieldLink RX12 184 "WirelessCellModel" "waits" "[Z" ∈ GW := mG8 (List.mem_append_left _ (List.mem_of_getElem? (i := 17) rfl))
theorem gw210 : Cond.fieldLink RX12 187 "WirelessCellModel" "waitsFrom" "[I" ∈ GW := mG8 (List.mem_append_left _ (List.mem_of_getElem? (i := 18) rfl))
theorem gw211 : Cond.fieldLink RX12 190 "WirelessCellModel" "due" "[I" ∈ GW := mG8 (List.mem_append_left _ (List.mem_of_getElem? (i := 19) rfl))
theorem gw212 : Cond.fieldLink RX12 193 "WirelessCellModel" "dueAt" "[I" ∈ GW := mG8 (List.mem_append_left _ (List.mem_of_getElem? (i := 20) rfl))
theorem gw213 : Cond.fieldLink RX12 196 "WirelessCellModel" "dueFor" "[J" ∈ GW := mG8 (List.mem_append_left _ (List.mem_of_getElem? (i := 21) rfl))
theorem gw214 : Cond.fieldLink RX12 199 "WirelessCellModel" "vSender" "[I" ∈ GW := mG8 (List.mem_append_left _ (List.mem_of_getElem? (i := 22) rfl))
theorem gw215 : Cond.fieldLink RX12 202 "WirelessCellModel" "vLast" "[I" ∈ GW := mG8 (List.mem_append_left _ (List.mem_of_getElem? (i := 23) rfl))
theorem gw216 : Cond.fieldLink RX12 205 "WirelessCellModel" "vLen" "[I" ∈ GW := mG9 (List.mem_append_left _ (List.mem_of_getElem? (i := 0) rfl))
theorem gw217 : Cond.fieldLink RX12 208 "WirelessCellModel" "vClean" "[Z" ∈ GW := mG9 (List.mem_append_left _ (List.mem_of_getElem? (i := 1) rfl))
theorem gw218 : Cond.fieldLink RX12 211 "WirelessCellModel" "vNumber" "[I" ∈ GW := mG9 (List.mem_append_left _ (List.mem_of_getElem? (i := 2) rfl))
theorem gw219 : Cond.constant RX12 214 (90000) ∈ GW := mG9 (List.mem_append_left _ (List.mem_of_getElem? (i := 3) rfl))
theorem gw220 : Cond.fieldLink RX12 215 "WirelessCellModel" "vBytes" "[I" ∈ GW := mG9 (List.mem_append_left _ (List.mem_of_getElem? (i := 4) rfl))
theorem gw221 : Cond.fieldLink RX12 218 "WirelessCellModel" "hSender" "[I" ∈ GW := mG9 (List.mem_append_left _ (List.mem_of_getElem? (i := 5) rfl))
theorem gw222 : Cond.fieldLink RX12 221 "WirelessCellModel" "hFirst" "[I" ∈ GW := mG9 (List.mem_append_left _ (List.mem_of_getElem? (i := 6) rfl))
theorem gw223 : Cond.fieldLink RX12 224 "WirelessCellModel" "hLen" "[I" ∈ GW := mG9 (List.mem_append_left _ (List.mem_of_getElem? (i := 7) rfl))
theorem gw224 : Cond.fieldLink RX12 227 "WirelessCellModel" "hSlots" "[I" ∈ GW := mG9 (List.mem_append_left _ (List.mem_of_getElem? (i := 8) rfl))
theorem gw225 : Cond.fieldLink RX12 230 "WirelessCellModel" "hClean" "[I" ∈ GW := mG9 (List.mem_append_left _ (List.mem_of_getElem? (i := 9) rfl))
theorem gw226 : Cond.fieldLink RX12 233 "WirelessCellModel" "hBytes" "[I" ∈ GW := mG9 (List.mem_append_left _ (List.mem_of_getElem? (i := 10) rfl))
theorem gw227 : Cond.fieldLink RX12 236 "WirelessCellModel" "noiseFrom" "[I" ∈ GW := mG9 (List.mem_append_left _ (List.mem_of_getElem? (i := 11) rfl))
theorem gw228 : Cond.fieldLink RX12 239 "WirelessCellModel" "noiseTo" "[I" ∈ GW := mG9 (List.mem_append_left _ (List.mem_of_getElem? (i := 12) rfl))
theorem gw229 : Cond.fieldLink RX12 242 "WirelessCellModel" "pSlot" "[I" ∈ GW := mG9 (List.mem_append_left _ (List.mem_of_getElem? (i := 13) rfl))
theorem gw230 : Cond.fieldLink RX12 245 "WirelessCellModel" "pLen" "[I" ∈ GW := mG9 (List.mem_append_left _ (List.mem_of_getElem? (i := 14) rfl))
theorem gw231 : Cond.fieldLink RX12 248 "WirelessCellModel" "pBytes" "[I" ∈ GW := mG9 (List.mem_append_left _ (List.mem_of_getElem? (i := 15) rfl))
theorem gw232 : Cond.fieldLink RX12 251 "WirelessCellModel" "answer" "[I" ∈ GW := mG9 (List.mem_append_left _ (List.mem_of_getElem? (i := 16) rfl))
theorem gw233 : Cond.fieldLink RX12 254 "WirelessCellModel" "seen" "[I" ∈ GW := mG9 (List.mem_append_left _ (List.mem_of_getElem? (i := 17) rfl))
theorem gw234 : Cond.fieldLink RX12 257 "WirelessCellModel" "latest" "[I" ∈ GW := mG9 (List.mem_append_left _ (List.mem_of_getElem? (i := 18) rfl))
theorem gw235 : Cond.fieldLink RX12 260 "WirelessCellModel" "hasLatest" "[Z" ∈ GW := mG9 (List.mem_append_left _ (List.mem_of_getElem? (i := 19) rfl))
theorem gw236 : Cond.fieldLink RX12 263 "WirelessCellModel" "dropped" "[I" ∈ GW := mG9 (List.mem_append_left _ (List.mem_of_getElem? (i := 20) rfl))
theorem gw237 : Cond.fieldLink RX12 266 "WirelessCellModel" "unsealed" "[I" ∈ GW := mG9 (List.mem_append_left _ (List.mem_of_getElem? (i := 21) rfl))
theorem gw238 : Cond.fieldLink RX12 269 "WirelessCellModel" "plain" "[I" ∈ GW := mG9 (List.mem_append_left _ (List.mem_of_getElem? (i := 22) rfl))
theorem gw239 : Cond.fieldLink RX12 272 "WirelessCellModel" "deliveredMany" "[I" ∈ GW := mG9 (List.mem_append_left _ (List.mem_of_getElem? (i := 23) rfl))
theorem gw240 : Cond.fieldLink RX12 275 "WirelessCellModel" "deliveredFrom" "[I" ∈ GW := mG10 (List.mem_append_left _ (List.mem_of_getElem? (i := 0) rfl))
theorem gw241 : Cond.fieldLink RX12 278 "WirelessCellModel" "deliveredLen" "[I" ∈ GW := mG10 (List.mem_append_left _ (List.mem_of_getElem? (i := 1) rfl))
theorem gw242 : Cond.fieldLink RX12 281 "WirelessCellModel" "deliveredBytes" "[I" ∈ GW := mG10 (List.mem_append_left _ (List.mem_of_getElem? (i := 2) rfl))
theorem gw243 : Cond.methodLink RX12 284 yX12_findBoxes ∈ GW := mG10 (List.mem_append_left _ (List.mem_of_getElem? (i := 3) rfl))
theorem gw244 : Cond.instanceMethod yX12_findBoxes ∈ GW := mG10 (List.mem_append_left _ (List.mem_of_getElem? (i := 4) rfl))
theorem gw245 : Cond.selects RX12 yX12_findBoxes yX12_findBoxes ∈ GW := mG10 (List.mem_append_left _ (List.mem_of_getElem? (i := 5) rfl))
theorem gw246 : Cond.code yX12_findBoxes cX12_findBoxes 4 none ∈ GW := mG10 (List.mem_append_left _ (List.mem_of_getElem? (i := 6) rfl))
theorem gw247 : Cond.methodLink RX12 326 yX12_product ∈ GW := mG10 (List.mem_append_left _ (List.mem_of_getElem? (i := 7) rfl))
theorem gw248 : Cond.static yX12_product ∈ GW := mG10 (List.mem_append_left _ (List.mem_of_getElem? (i := 8) rfl))
theorem gw249 : Cond.code yX12_product cX12_product 5 (some .int) ∈ GW := mG10 (List.mem_append_left _ (List.mem_of_getElem? (i := 9) rfl))
theorem gw250 : Cond.methodLink RX12 322 yX12_twice ∈ GW := mG10 (List.mem_append_left _ (List.mem_of_getElem? (i := 10) rfl))
theorem gw251 : Cond.static yX12_twice ∈ GW := mG10 (List.mem_append_left _ (List.mem_of_getElem? (i := 11) rfl))
theorem gw252 : Cond.code yX12_twice cX12_twice 2 (some .int) ∈ GW := mG10 (List.mem_append_left _ (List.mem_of_getElem? (i := 12) rfl))
theorem gw253 : Cond.methodLink RX12 329 yX12_turn ∈ GW := mG10 (List.mem_append_left _ (List.mem_of_getElem? (i := 13) rfl))
theorem gw254 : Cond.static yX12_turn ∈ GW := mG10 (List.mem_append_left _ (List.mem_of_getElem? (i := 14) rfl))
theorem gw255 : Cond.code yX12_turn cX12_turn 2 (some .int) ∈ GW := mG10 (List.mem_append_left _ (List.mem_of_getElem? (i := 15) rfl))
theorem gw256 : Cond.methodLink RL 13 yX11_feed ∈ GW := mG10 (List.mem_append_left _ (List.mem_of_getElem? (i := 16) rfl))
theorem gw257 : Cond.instanceMethod yX11_feed ∈ GW := mG10 (List.mem_append_left _ (List.mem_of_getElem? (i := 17) rfl))
theorem gw258 : Cond.selects RX11 yX11_feed yX11_feed ∈ GW := mG10 (List.mem_append_left _ (List.mem_of_getElem? (i := 18) rfl))
theorem gw259 : Cond.code yX11_feed cX11_feed 6 (some .int) ∈ GW := mG10 (List.mem_append_left _ (List.mem_of_getElem? (i := 19) rfl))
theorem gw260 : Cond.fieldLink RX11 83 "WirelessCell" "tapeLength" "I" ∈ GW := mG10 (List.mem_append_left _ (List.mem_of_getElem? (i := 20) rfl))
theorem gw261 : Cond.methodLink RX11 86 yX11_feedNumber ∈ GW := mG10 (List.mem_append_left _ (List.mem_of_getElem? (i := 21) rfl))
theorem gw262 : Cond.instanceMethod yX11_feedNumber ∈ GW := mG10 (List.mem_append_left _ (List.mem_of_getElem? (i := 22) rfl))
theorem gw263 : Cond.selects RX11 yX11_feedNumber yX11_feedNumber ∈ GW := mG10 (List.mem_append_left _ (List.mem_of_getElem? (i := 23) rfl))
theorem gw264 : Cond.code yX11_feedNumber cX11_feedNumber 2 none ∈ GW := mG11 (List.mem_append_left _ (List.mem_of_getElem? (i := 0) rfl))
theorem gw265 : Cond.methodLink RX11 89 yX2_writeHighestFirst ∈ GW := mG11 (List.mem_append_left _ (List.mem_of_getElem? (i := 1) rfl))
theorem gw266 : Cond.static yX2_writeHighestFirst ∈ GW := mG11 (List.mem_append_left _ (List.mem_of_getElem? (i := 2) rfl))
theorem gw267 : Cond.initialized RX2 ∈ GW := mG11 (List.mem_append_left _ (List.mem_of_getElem? (i := 3) rfl))
theorem gw268 : Cond.code yX2_writeHighestFirst cX2_writeHighestFirst 6 none ∈ GW := mG11 (List.mem_append_left _ (List.mem_of_getElem? (i := 4) rfl))
theorem gw269 : Cond.methodLink RL 17 yX12_feed ∈ GW := mG11 (List.mem_append_left _ (List.mem_of_getElem? (i := 5) rfl))
theorem gw270 : Cond.instanceMethod yX12_feed ∈ GW := mG11 (List.mem_append_left _ (List.mem_of_getElem? (i := 6) rfl))
theorem gw271 : Cond.selects RX12 yX12_feed yX12_feed ∈ GW := mG11 (List.mem_append_left _ (List.mem_of_getElem? (i := 7) rfl))
theorem gw272 : Cond.code yX12_feed cX12_feed 6 (some .int) ∈ GW := mG11 (List.mem_append_left _ (List.mem_of_getElem? (i := 8) rfl))
theorem gw273 : Cond.fieldLink RX12 287 "WirelessCellModel" "thrown" "I" ∈ GW := mG11 (List.mem_append_left _ (List.mem_of_getElem? (i := 9) rfl))
theorem gw274 : Cond.fieldLink RX12 346 "WirelessCellModel" "taped" "I" ∈ GW := mG11 (List.mem_append_left _ (List.mem_of_getElem? (i := 10) rfl))
theorem gw275 : Cond.methodLink RX12 349 yX12_four ∈ GW := mG11 (List.mem_append_left _ (List.mem_of_getElem? (i := 11) rfl))
theorem gw276 : Cond.instanceMethod yX12_four ∈ GW := mG11 (List.mem_append_left _ (List.mem_of_getElem? (i := 12) rfl))
theorem gw277 : Cond.selects RX12 yX12_four yX12_four ∈ GW := mG11 (List.mem_append_left _ (List.mem_of_getElem? (i := 13) rfl))
theorem gw278 : Cond.code yX12_four cX12_four 3 none ∈ GW := mG11 (List.mem_append_left _ (List.mem_of_getElem? (i := 14) rfl))
theorem gw279 : Cond.methodLink RL 18 yX11_end ∈ GW := mG11 (List.mem_append_left _ (List.mem_of_getElem? (i := 15) rfl))
theorem gw280 : Cond.instanceMethod yX11_end ∈ GW := mG11 (List.mem_append_left _ (List.mem_of_getElem? (i := 16) rfl))
theorem gw281 : Cond.selects RX11 yX11_end yX11_end ∈ GW := mG11 (List.mem_append_left _ (List.mem_of_getElem? (i := 17) rfl))
theorem gw282 : Cond.code yX11_end cX11_end 2 (some .int) ∈ GW := mG11 (List.mem_append_left _ (List.mem_of_getElem? (i := 18) rfl))
theorem gw283 : Cond.methodLink RL 22 yX12_end ∈ GW := mG11 (List.mem_append_left _ (List.mem_of_getElem? (i := 19) rfl))
theorem gw284 : Cond.instanceMethod yX12_end ∈ GW := mG11 (List.mem_append_left _ (List.mem_of_getElem? (i := 20) rfl))
theorem gw285 : Cond.selects RX12 yX12_end yX12_end ∈ GW := mG11 (List.mem_append_left _ (List.mem_of_getElem? (i := 21) rfl))
theorem gw286 : Cond.code yX12_end cX12_end 2 (some .int) ∈ GW := mG11 (List.mem_append_left _ (List.mem_of_getElem? (i := 22) rfl))
theorem gw287 : Cond.methodLink RL 23 yX11_alter ∈ GW := mG11 (List.mem_append_left _ (List.mem_of_getElem? (i := 23) rfl))
theorem gw288 : Cond.instanceMethod yX11_alter ∈ GW := mG12 (List.mem_append_left _ (List.mem_of_getElem? (i := 0) rfl))
theorem gw289 : Cond.selects RX11 yX11_alter yX11_alter ∈ GW := mG12 (List.mem_append_left _ (List.mem_of_getElem? (i := 1) rfl))
theorem gw290 : Cond.code yX11_alter cX11_alter 3 (some .int) ∈ GW := mG12 (List.mem_append_left _ (List.mem_of_getElem? (i := 2) rfl))
theorem gw291 : Cond.methodLink RL 27 yX12_alter ∈ GW := mG12 (List.mem_append_left _ (List.mem_of_getElem? (i := 3) rfl))
theorem gw292 : Cond.instanceMethod yX12_alter ∈ GW := mG12 (List.mem_append_left _ (List.mem_of_getElem? (i := 4) rfl))
theorem gw293 : Cond.selects RX12 yX12_alter yX12_alter ∈ GW := mG12 (List.mem_append_left _ (List.mem_of_getElem? (i := 5) rfl))
theorem gw294 : Cond.code yX12_alter cX12_alter 3 (some .int) ∈ GW := mG12 (List.mem_append_left _ (List.mem_of_getElem? (i := 6) rfl))
theorem gw295 : Cond.constantLong RX12 352 (255) ∈ GW := mG12 (List.mem_append_left _ (List.mem_of_getElem? (i := 7) rfl))
theorem gw296 : Cond.methodLink RX12 354 yX12_in ∈ GW := mG12 (List.mem_append_left _ (List.mem_of_getElem? (i := 8) rfl))
theorem gw297 : Cond.static yX12_in ∈ GW := mG12 (List.mem_append_left _ (List.mem_of_getElem? (i := 9) rfl))
theorem gw298 : Cond.code yX12_in cX12_in 6 (some .boolean) ∈ GW := mG12 (List.mem_append_left _ (List.mem_of_getElem? (i := 10) rfl))
theorem gw299 : Cond.methodLink RL 28 yX11_check ∈ GW := mG12 (List.mem_append_left _ (List.mem_of_getElem? (i := 11) rfl))
theorem gw300 : Cond.instanceMethod yX11_check ∈ GW := mG12 (List.mem_append_left _ (List.mem_of_getElem? (i := 12) rfl))
theorem gw301 : Cond.selects RX11 yX11_check yX11_check ∈ GW := mG12 (List.mem_append_left _ (List.mem_of_getElem? (i := 13) rfl))
theorem gw302 : Cond.code yX11_check cX11_check 1 (some .int) ∈ GW := mG12 (List.mem_append_left _ (List.mem_of_getElem? (i := 14) rfl))
theorem gw303 : Cond.methodLink RX11 95 yX2_writeFcs ∈ GW := mG12 (List.mem_append_left _ (List.mem_of_getElem? (i := 15) rfl))
theorem gw304 : Cond.static yX2_writeFcs ∈ GW := mG12 (List.mem_append_left _ (List.mem_of_getElem? (i := 16) rfl))
theorem gw305 : Cond.code yX2_writeFcs cX2_writeFcs 4 none ∈ GW := mG12 (List.mem_append_left _ (List.mem_of_getElem? (i := 17) rfl))
theorem gw306 : Cond.methodLink RX2 15 yX2_crcOf ∈ GW := mG12 (List.mem_append_left _ (List.mem_of_getElem? (i := 18) rfl))
theorem gw307 : Cond.static yX2_crcOf ∈ GW := mG12 (List.mem_append_left _ (List.mem_of_getElem? (i := 19) rfl))
theorem gw308 : Cond.code yX2_crcOf cX2_crcOf 4 (some .int) ∈ GW := mG12 (List.mem_append_left _ (List.mem_of_getElem? (i := 20) rfl))
theorem gw309 : Cond.fieldLink RX2 11 "WirelessCell$Frames" "CRC" "[I" ∈ GW := mG12 (List.mem_append_left _ (List.mem_of_getElem? (i := 21) rfl))
theorem gw310 : Cond.methodLink RL 32 yX12_check ∈ GW := mG12 (List.mem_append_left _ (List.mem_of_getElem? (i := 22) rfl))
theorem gw311 : Cond.instanceMethod yX12_check ∈ GW := mG12 (List.mem_append_left _ (List.mem_of_getElem? (i := 23) rfl))
theorem gw312 : Cond.selects RX12 yX12_check yX12_check ∈ GW := mG13 (List.mem_append_left _ (List.mem_of_getElem? (i := 0) rfl))
theorem gw313 : Cond.code yX12_check cX12_check 3 (some .int) ∈ GW := mG13 (List.mem_append_left _ (List.mem_of_getElem? (i := 1) rfl))
theorem gw314 : Cond.methodLink RX12 358 yX12_crc ∈ GW := mG13 (List.mem_append_left _ (List.mem_of_getElem? (i := 2) rfl))
theorem gw315 : Cond.static yX12_crc ∈ GW := mG13 (List.mem_append_left _ (List.mem_of_getElem? (i := 3) rfl))
theorem gw316 : Cond.code yX12_crc cX12_crc 6 (some .int) ∈ GW := mG13 (List.mem_append_left _ (List.mem_of_getElem? (i := 4) rfl))
theorem gw317 : Cond.constant RX12 345 (-306674912) ∈ GW := mG13 (List.mem_append_left _ (List.mem_of_getElem? (i := 5) rfl))
theorem gw318 : Cond.methodLink RL 33 yX11_copy ∈ GW := mG13 (List.mem_append_left _ (List.mem_of_getElem? (i := 6) rfl))
theorem gw319 : Cond.instanceMethod yX11_copy ∈ GW := mG13 (List.mem_append_left _ (List.mem_of_getElem? (i := 7) rfl))
theorem gw320 : Cond.selects RX11 yX11_copy yX11_copy ∈ GW := mG13 (List.mem_append_left _ (List.mem_of_getElem? (i := 8) rfl))
theorem gw321 : Cond.code yX11_copy cX11_copy 3 (some .int) ∈ GW := mG13 (List.mem_append_left _ (List.mem_of_getElem? (i := 9) rfl))
theorem gw322 : Cond.fieldLink RX11 103 "WirelessCell$Medium" "lengths" "[I" ∈ GW := mG13 (List.mem_append_left _ (List.mem_of_getElem? (i := 10) rfl))
theorem gw323 : Cond.fieldLink RX11 106 "WirelessCell$Medium" "rows" "[[I" ∈ GW := mG13 (List.mem_append_left _ (List.mem_of_getElem? (i := 11) rfl))
theorem gw324 : Cond.methodLink RX11 110 arraycopyName ∈ GW := mG13 (List.mem_append_left _ (List.mem_of_getElem? (i := 12) rfl))
theorem gw325 : Cond.native arraycopyName ∈ GW := mG13 (List.mem_append_left _ (List.mem_of_getElem? (i := 13) rfl))
theorem gw326 : Cond.static arraycopyName ∈ GW := mG13 (List.mem_append_left _ (List.mem_of_getElem? (i := 14) rfl))
theorem gw327 : Cond.initialized "java/lang/System" ∈ GW := mG13 (List.mem_append_left _ (List.mem_of_getElem? (i := 15) rfl))
theorem gw328 : Cond.methodLink RX11 99 yX5_rowOf ∈ GW := mG13 (List.mem_append_left _ (List.mem_of_getElem? (i := 16) rfl))
theorem gw329 : Cond.instanceMethod yX5_rowOf ∈ GW := mG13 (List.mem_append_left _ (List.mem_of_getElem? (i := 17) rfl))
theorem gw330 : Cond.selects RX5 yX5_rowOf yX5_rowOf ∈ GW := mG13 (List.mem_append_left _ (List.mem_of_getElem? (i := 18) rfl))
theorem gw331 : Cond.code yX5_rowOf cX5_rowOf 2 (some .int) ∈ GW := mG13 (List.mem_append_left _ (List.mem_of_getElem? (i := 19) rfl))
theorem gw332 : Cond.fieldLink RX5 62 "WirelessCell$Medium" "kept" "I" ∈ GW := mG13 (List.mem_append_left _ (List.mem_of_getElem? (i := 20) rfl))
theorem gw333 : Cond.methodLink RX5 93 yJ9_floorMod_7cf53 ∈ GW := mG13 (List.mem_append_left _ (List.mem_of_getElem? (i := 21) rfl))
theorem gw334 : Cond.static yJ9_floorMod_7cf53 ∈ GW := mG13 (List.mem_append_left _ (List.mem_of_getElem? (i := 22) rfl))
theorem gw335 : Cond.initialized RJ9 ∈ GW := mG13 (List.mem_append_left _ (List.mem_of_getElem? (i := 23) rfl))
theorem gw336 : Cond.code yJ9_floorMod_7cf53 cJ9_floorMod_7cf53 3 (some .int) ∈ GW := mG14 (List.mem_append_left _ (List.mem_of_getElem? (i := 0) rfl))
theorem gw337 : Cond.methodLink RL 36 yX12_copy ∈ GW := mG14 (List.mem_append_left _ (List.mem_of_getElem? (i := 1) rfl))
theorem gw338 : Cond.instanceMethod yX12_copy ∈ GW := mG14 (List.mem_append_left _ (List.mem_of_getElem? (i := 2) rfl))
theorem gw339 : Cond.selects RX12 yX12_copy yX12_copy ∈ GW := mG14 (List.mem_append_left _ (List.mem_of_getElem? (i := 3) rfl))
theorem gw340 : Cond.code yX12_copy cX12_copy 4 (some .int) ∈ GW := mG14 (List.mem_append_left _ (List.mem_of_getElem? (i := 4) rfl))
theorem gw341 : Cond.fieldLink RX12 457 "WirelessCellModel" "began" "I" ∈ GW := mG14 (List.mem_append_left _ (List.mem_of_getElem? (i := 5) rfl))
theorem gw342 : Cond.methodLink RX12 596 yX12_isKept ∈ GW := mG14 (List.mem_append_left _ (List.mem_of_getElem? (i := 6) rfl))
theorem gw343 : Cond.instanceMethod yX12_isKept ∈ GW := mG14 (List.mem_append_left _ (List.mem_of_getElem? (i := 7) rfl))
theorem gw344 : Cond.selects RX12 yX12_isKept yX12_isKept ∈ GW := mG14 (List.mem_append_left _ (List.mem_of_getElem? (i := 8) rfl))
theorem gw345 : Cond.code yX12_isKept cX12_isKept 2 (some .boolean) ∈ GW := mG14 (List.mem_append_left _ (List.mem_of_getElem? (i := 9) rfl))
theorem gw346 : Cond.methodLink RL 37 yX11_tape ∈ GW := mG14 (List.mem_append_left _ (List.mem_of_getElem? (i := 10) rfl))
theorem gw347 : Cond.instanceMethod yX11_tape ∈ GW := mG14 (List.mem_append_left _ (List.mem_of_getElem? (i := 11) rfl))
theorem gw348 : Cond.selects RX11 yX11_tape yX11_tape ∈ GW := mG14 (List.mem_append_left _ (List.mem_of_getElem? (i := 12) rfl))
theorem gw349 : Cond.code yX11_tape cX11_tape 2 (some .int) ∈ GW := mG14 (List.mem_append_left _ (List.mem_of_getElem? (i := 13) rfl))
theorem gw350 : Cond.methodLink RL 40 yX12_tape ∈ GW := mG14 (List.mem_append_left _ (List.mem_of_getElem? (i := 14) rfl))
theorem gw351 : Cond.instanceMethod yX12_tape ∈ GW := mG14 (List.mem_append_left _ (List.mem_of_getElem? (i := 15) rfl))
theorem gw352 : Cond.selects RX12 yX12_tape yX12_tape ∈ GW := mG14 (List.mem_append_left _ (List.mem_of_getElem? (i := 16) rfl))
theorem gw353 : Cond.code yX12_tape cX12_tape 2 (some .int) ∈ GW := mG14 (List.mem_append_left _ (List.mem_of_getElem? (i := 17) rfl))
theorem gw354 : Cond.methodLink RL 43 yX11_secret ∈ GW := mG14 (List.mem_append_left _ (List.mem_of_getElem? (i := 18) rfl))
theorem gw355 : Cond.instanceMethod yX11_secret ∈ GW := mG14 (List.mem_append_left _ (List.mem_of_getElem? (i := 19) rfl))
theorem gw356 : Cond.selects RX11 yX11_secret yX11_secret ∈ GW := mG14 (List.mem_append_left _ (List.mem_of_getElem? (i := 20) rfl))
theorem gw357 : Cond.code yX11_secret cX11_secret 10 (some .int) ∈ GW := mG14 (List.mem_append_left _ (List.mem_of_getElem? (i := 21) rfl))
theorem gw358 : Cond.fieldLink RX11 120 "WirelessCell$Link" "secret" "[I" ∈ GW := mG14 (List.mem_append_left _ (List.mem_of_getElem? (i := 22) rfl))
theorem gw359 : Cond.methodLink RX11 116 yX11_isStation ∈ GW := mG14 (List.mem_append_left _ (List.mem_of_getElem? (i := 23) rfl))
theorem gw360 : Cond.static yX11_isStation ∈ GW := mG15 (List.mem_append_left _ (List.mem_of_getElem? (i := 0) rfl))
theorem gw361 : Cond.code yX11_isStation cX11_isStation 1 (some .boolean) ∈ GW := mG15 (List.mem_append_left _ (List.mem_of_getElem? (i := 1) rfl))
theorem gw362 : Cond.methodLink RX11 123 yX11_fillByLongs ∈ GW := mG15 (List.mem_append_left _ (List.mem_of_getElem? (i := 2) rfl))
theorem gw363 : Cond.static yX11_fillByLongs ∈ GW := mG15 (List.mem_append_left _ (List.mem_of_getElem? (i := 3) rfl))
theorem gw364 : Cond.code yX11_fillByLongs cX11_fillByLongs 9 none ∈ GW := mG15 (List.mem_append_left _ (List.mem_of_getElem? (i := 4) rfl))
theorem gw365 : Cond.methodLink RL 47 yX12_secret ∈ GW := mG15 (List.mem_append_left _ (List.mem_of_getElem? (i := 5) rfl))
theorem gw366 : Cond.instanceMethod yX12_secret ∈ GW := mG15 (List.mem_append_left _ (List.mem_of_getElem? (i := 6) rfl))
theorem gw367 : Cond.selects RX12 yX12_secret yX12_secret ∈ GW := mG15 (List.mem_append_left _ (List.mem_of_getElem? (i := 7) rfl))
theorem gw368 : Cond.code yX12_secret cX12_secret 10 (some .int) ∈ GW := mG15 (List.mem_append_left _ (List.mem_of_getElem? (i := 8) rfl))
theorem gw369 : Cond.methodLink RX12 361 yX12_isStation ∈ GW := mG15 (List.mem_append_left _ (List.mem_of_getElem? (i := 9) rfl))
theorem gw370 : Cond.static yX12_isStation ∈ GW := mG15 (List.mem_append_left _ (List.mem_of_getElem? (i := 10) rfl))
theorem gw371 : Cond.code yX12_isStation cX12_isStation 1 (some .boolean) ∈ GW := mG15 (List.mem_append_left _ (List.mem_of_getElem? (i := 11) rfl))
theorem gw372 : Cond.constantLong RX12 310 (8) ∈ GW := mG15 (List.mem_append_left _ (List.mem_of_getElem? (i := 12) rfl))
theorem gw373 : Cond.methodLink RX12 365 yX12_putLongs ∈ GW := mG15 (List.mem_append_left _ (List.mem_of_getElem? (i := 13) rfl))
theorem gw374 : Cond.static yX12_putLongs ∈ GW := mG15 (List.mem_append_left _ (List.mem_of_getElem? (i := 14) rfl))
theorem gw375 : Cond.code yX12_putLongs cX12_putLongs 13 none ∈ GW := mG15 (List.mem_append_left _ (List.mem_of_getElem? (i := 15) rfl))
theorem gw376 : Cond.methodLink RL 48 yX11_known ∈ GW := mG15 (List.mem_append_left _ (List.mem_of_getElem? (i := 16) rfl))
theorem gw377 : Cond.instanceMethod yX11_known ∈ GW := mG15 (List.mem_append_left _ (List.mem_of_getElem? (i := 17) rfl))
theorem gw378 : Cond.selects RX11 yX11_known yX11_known ∈ GW := mG15 (List.mem_append_left _ (List.mem_of_getElem? (i := 18) rfl))
theorem gw379 : Cond.code yX11_known cX11_known 10 (some .int) ∈ GW := mG15 (List.mem_append_left _ (List.mem_of_getElem? (i := 19) rfl))
theorem gw380 : Cond.methodLink RL 51 yX12_known ∈ GW := mG15 (List.mem_append_left _ (List.mem_of_getElem? (i := 20) rfl))
theorem gw381 : Cond.instanceMethod yX12_known ∈ GW := mG15 (List.mem_append_left _ (List.mem_of_getElem? (i := 21) rfl))
theorem gw382 : Cond.selects RX12 yX12_known yX12_known ∈ GW := mG15 (List.mem_append_left _ (List.mem_of_getElem? (i := 22) rfl))
theorem gw383 : Cond.code yX12_known cX12_known 10 (some .int) ∈ GW := mG15 (List.mem_append_left _ (List.mem_of_getElem? (i := 23) rfl))
theorem gw384 : Cond.methodLink RL 52 yX11_nonce ∈ GW := mG16 (List.mem_append_left _ (List.mem_of_getElem? (i := 0) rfl))
theorem gw385 : Cond.instanceMethod yX11_nonce ∈ GW := mG16 (List.mem_append_left _ (List.mem_of_getElem? (i := 1) rfl))
theorem gw386 : Cond.selects RX11 yX11_nonce yX11_nonce ∈ GW := mG16 (List.mem_append_left _ (List.mem_of_getElem? (i := 2) rfl))
theorem gw387 : Cond.code yX11_nonce cX11_nonce 10 (some .int) ∈ GW := mG16 (List.mem_append_left _ (List.mem_of_getElem? (i := 3) rfl))
theorem gw388 : Cond.fieldLink RX11 130 "WirelessCell$Node" "nonce" "[I" ∈ GW := mG16 (List.mem_append_left _ (List.mem_of_getElem? (i := 4) rfl))
theorem gw389 : Cond.methodLink RX11 127 yX11_isNode ∈ GW := mG16 (List.mem_append_left _ (List.mem_of_getElem? (i := 5) rfl))
theorem gw390 : Cond.static yX11_isNode ∈ GW := mG16 (List.mem_append_left _ (List.mem_of_getElem? (i := 6) rfl))
theorem gw391 : Cond.code yX11_isNode cX11_isNode 1 (some .boolean) ∈ GW := mG16 (List.mem_append_left _ (List.mem_of_getElem? (i := 7) rfl))
theorem gw392 : Cond.methodLink RL 55 yX12_nonce ∈ GW := mG16 (List.mem_append_left _ (List.mem_of_getElem? (i := 8) rfl))
theorem gw393 : Cond.instanceMethod yX12_nonce ∈ GW := mG16 (List.mem_append_left _ (List.mem_of_getElem? (i := 9) rfl))
theorem gw394 : Cond.selects RX12 yX12_nonce yX12_nonce ∈ GW := mG16 (List.mem_append_left _ (List.mem_of_getElem? (i := 10) rfl))
theorem gw395 : Cond.code yX12_nonce cX12_nonce 10 (some .int) ∈ GW := mG16 (List.mem_append_left _ (List.mem_of_getElem? (i := 11) rfl))
theorem gw396 : Cond.methodLink RX12 369 yX12_isNode ∈ GW := mG16 (List.mem_append_left _ (List.mem_of_getElem? (i := 12) rfl))
theorem gw397 : Cond.static yX12_isNode ∈ GW := mG16 (List.mem_append_left _ (List.mem_of_getElem? (i := 13) rfl))
theorem gw398 : Cond.code yX12_isNode cX12_isNode 1 (some .boolean) ∈ GW := mG16 (List.mem_append_left _ (List.mem_of_getElem? (i := 14) rfl))
theorem gw399 : Cond.methodLink RL 56 yX11_size ∈ GW := mG16 (List.mem_append_left _ (List.mem_of_getElem? (i := 15) rfl))
theorem gw400 : Cond.instanceMethod yX11_size ∈ GW := mG16 (List.mem_append_left _ (List.mem_of_getElem? (i := 16) rfl))
theorem gw401 : Cond.selects RX11 yX11_size yX11_size ∈ GW := mG16 (List.mem_append_left _ (List.mem_of_getElem? (i := 17) rfl))
theorem gw402 : Cond.code yX11_size cX11_size 3 (some .int) ∈ GW := mG16 (List.mem_append_left _ (List.mem_of_getElem? (i := 18) rfl))
theorem gw403 : Cond.methodLink RL 59 yX12_size ∈ GW := mG16 (List.mem_append_left _ (List.mem_of_getElem? (i := 19) rfl))
theorem gw404 : Cond.instanceMethod yX12_size ∈ GW := mG16 (List.mem_append_left _ (List.mem_of_getElem? (i := 20) rfl))
theorem gw405 : Cond.selects RX12 yX12_size yX12_size ∈ GW := mG16 (List.mem_append_left _ (List.mem_of_getElem? (i := 21) rfl))
theorem gw406 : Cond.code yX12_size cX12_size 3 (some .int) ∈ GW := mG16 (List.mem_append_left _ (List.mem_of_getElem? (i := 22) rfl))
theorem gw407 : Cond.constantLong RX12 599 (16) ∈ GW := mG16 (List.mem_append_left _ (List.mem_of_getElem? (i := 23) rfl))
theorem gw408 : Cond.methodLink RL 60 yX11_limit ∈ GW := mG17 (List.mem_append_left _ (List.mem_of_getElem? (i := 0) rfl))
theorem gw409 : Cond.instanceMethod yX11_limit ∈ GW := mG17 (List.mem_append_left _ (List.mem_of_getElem? (i := 1) rfl))
theorem gw410 : Cond.selects RX11 yX11_limit yX11_limit ∈ GW := mG17 (List.mem_append_left _ (List.mem_of_getElem? (i := 2) rfl))
theorem gw411 : Cond.code yX11_limit cX11_limit 3 (some .int) ∈ GW := mG17 (List.mem_append_left _ (List.mem_of_getElem? (i := 3) rfl))
theorem gw412 : Cond.methodLink RL 63 yX12_limit ∈ GW := mG17 (List.mem_append_left _ (List.mem_of_getElem? (i := 4) rfl))
theorem gw413 : Cond.instanceMethod yX12_limit ∈ GW := mG17 (List.mem_append_left _ (List.mem_of_getElem? (i := 5) rfl))
theorem gw414 : Cond.selects RX12 yX12_limit yX12_limit ∈ GW := mG17 (List.mem_append_left _ (List.mem_of_getElem? (i := 6) rfl))
theorem gw415 : Cond.code yX12_limit cX12_limit 3 (some .int) ∈ GW := mG17 (List.mem_append_left _ (List.mem_of_getElem? (i := 7) rfl))
theorem gw416 : Cond.constantLong RX12 601 (15) ∈ GW := mG17 (List.mem_append_left _ (List.mem_of_getElem? (i := 8) rfl))
theorem gw417 : Cond.methodLink RL 64 yX11_draw ∈ GW := mG17 (List.mem_append_left _ (List.mem_of_getElem? (i := 9) rfl))
theorem gw418 : Cond.instanceMethod yX11_draw ∈ GW := mG17 (List.mem_append_left _ (List.mem_of_getElem? (i := 10) rfl))
theorem gw419 : Cond.selects RX11 yX11_draw yX11_draw ∈ GW := mG17 (List.mem_append_left _ (List.mem_of_getElem? (i := 11) rfl))
theorem gw420 : Cond.code yX11_draw cX11_draw 2 (some .int) ∈ GW := mG17 (List.mem_append_left _ (List.mem_of_getElem? (i := 12) rfl))
theorem gw421 : Cond.fieldLink RX11 136 "WirelessCell$Draws" "left" "I" ∈ GW := mG17 (List.mem_append_left _ (List.mem_of_getElem? (i := 13) rfl))
theorem gw422 : Cond.methodLink RX11 133 yX1_addLast ∈ GW := mG17 (List.mem_append_left _ (List.mem_of_getElem? (i := 14) rfl))
theorem gw423 : Cond.instanceMethod yX1_addLast ∈ GW := mG17 (List.mem_append_left _ (List.mem_of_getElem? (i := 15) rfl))
theorem gw424 : Cond.selects RX1 yX1_addLast yX1_addLast ∈ GW := mG17 (List.mem_append_left _ (List.mem_of_getElem? (i := 16) rfl))
theorem gw425 : Cond.code yX1_addLast cX1_addLast 2 (some .boolean) ∈ GW := mG17 (List.mem_append_left _ (List.mem_of_getElem? (i := 17) rfl))
theorem gw426 : Cond.fieldLink RX1 13 "WirelessCell$Draws" "left" "I" ∈ GW := mG17 (List.mem_append_left _ (List.mem_of_getElem? (i := 18) rfl))
theorem gw427 : Cond.fieldLink RX1 17 "WirelessCell$Draws" "first" "I" ∈ GW := mG17 (List.mem_append_left _ (List.mem_of_getElem? (i := 19) rfl))
theorem gw428 : Cond.methodLink RL 67 yX12_draw ∈ GW := mG17 (List.mem_append_left _ (List.mem_of_getElem? (i := 20) rfl))
theorem gw429 : Cond.instanceMethod yX12_draw ∈ GW := mG17 (List.mem_append_left _ (List.mem_of_getElem? (i := 21) rfl))
theorem gw430 : Cond.selects RX12 yX12_draw yX12_draw ∈ GW := mG17 (List.mem_append_left _ (List.mem_of_getElem? (i := 22) rfl))
theorem gw431 : Cond.code yX12_draw cX12_draw 3 (some .int) ∈ GW := mG17 (List.mem_append_left _ (List.mem_of_getElem? (i := 23) rfl))
theorem gw432 : Cond.fieldLink RX12 401 "WirelessCellModel" "drawTo" "I" ∈ GW := mG18 (List.mem_append_left _ (List.mem_of_getElem? (i := 0) rfl))
theorem gw433 : Cond.fieldLink RX12 398 "WirelessCellModel" "drawFrom" "I" ∈ GW := mG18 (List.mem_append_left _ (List.mem_of_getElem? (i := 1) rfl))
theorem gw434 : Cond.constantLong RX12 603 (127) ∈ GW := mG18 (List.mem_append_left _ (List.mem_of_getElem? (i := 2) rfl))
theorem gw435 : Cond.methodLink RL 68 yX11_noise ∈ GW := mG18 (List.mem_append_left _ (List.mem_of_getElem? (i := 3) rfl))
theorem gw436 : Cond.instanceMethod yX11_noise ∈ GW := mG18 (List.mem_append_left _ (List.mem_of_getElem? (i := 4) rfl))
theorem gw437 : Cond.selects RX11 yX11_noise yX11_noise ∈ GW := mG18 (List.mem_append_left _ (List.mem_of_getElem? (i := 5) rfl))
theorem gw438 : Cond.code yX11_noise cX11_noise 3 (some .int) ∈ GW := mG18 (List.mem_append_left _ (List.mem_of_getElem? (i := 6) rfl))
theorem gw439 : Cond.fieldLink RX11 139 "WirelessCell$Medium" "slot" "I" ∈ GW := mG18 (List.mem_append_left _ (List.mem_of_getElem? (i := 7) rfl))
theorem gw440 : Cond.fieldLink RX11 146 "WirelessCell$Medium" "noises" "I" ∈ GW := mG18 (List.mem_append_left _ (List.mem_of_getElem? (i := 8) rfl))
theorem gw441 : Cond.methodLink RX11 142 yX5_addNoise ∈ GW := mG18 (List.mem_append_left _ (List.mem_of_getElem? (i := 9) rfl))
theorem gw442 : Cond.instanceMethod yX5_addNoise ∈ GW := mG18 (List.mem_append_left _ (List.mem_of_getElem? (i := 10) rfl))
theorem gw443 : Cond.selects RX5 yX5_addNoise yX5_addNoise ∈ GW := mG18 (List.mem_append_left _ (List.mem_of_getElem? (i := 11) rfl))
theorem gw444 : Cond.code yX5_addNoise cX5_addNoise 3 (some .boolean) ∈ GW := mG18 (List.mem_append_left _ (List.mem_of_getElem? (i := 12) rfl))
theorem gw445 : Cond.fieldLink RX5 49 "WirelessCell$Medium" "noises" "I" ∈ GW := mG18 (List.mem_append_left _ (List.mem_of_getElem? (i := 13) rfl))
theorem gw446 : Cond.methodLink RL 71 yX12_noise ∈ GW := mG18 (List.mem_append_left _ (List.mem_of_getElem? (i := 14) rfl))
theorem gw447 : Cond.instanceMethod yX12_noise ∈ GW := mG18 (List.mem_append_left _ (List.mem_of_getElem? (i := 15) rfl))
theorem gw448 : Cond.selects RX12 yX12_noise yX12_noise ∈ GW := mG18 (List.mem_append_left _ (List.mem_of_getElem? (i := 16) rfl))
theorem gw449 : Cond.code yX12_noise cX12_noise 3 (some .int) ∈ GW := mG18 (List.mem_append_left _ (List.mem_of_getElem? (i := 17) rfl))
theorem gw450 : Cond.fieldLink RX12 479 "WirelessCellModel" "noises" "I" ∈ GW := mG18 (List.mem_append_left _ (List.mem_of_getElem? (i := 18) rfl))
theorem gw451 : Cond.fieldLink RX12 454 "WirelessCellModel" "slot" "I" ∈ GW := mG18 (List.mem_append_left _ (List.mem_of_getElem? (i := 19) rfl))
theorem gw452 : Cond.constantLong RX12 605 (2000) ∈ GW := mG18 (List.mem_append_left _ (List.mem_of_getElem? (i := 20) rfl))
theorem gw453 : Cond.methodLink RL 72 yX11_put ∈ GW := mG18 (List.mem_append_left _ (List.mem_of_getElem? (i := 21) rfl))
theorem gw454 : Cond.instanceMethod yX11_put ∈ GW := mG18 (List.mem_append_left _ (List.mem_of_getElem? (i := 22) rfl))
theorem gw455 : Cond.selects RX11 yX11_put yX11_put ∈ GW := mG18 (List.mem_append_left _ (List.mem_of_getElem? (i := 23) rfl))
theorem gw456 : Cond.code yX11_put cX11_put 2 (some .int) ∈ GW := mG19 (List.mem_append_left _ (List.mem_of_getElem? (i := 0) rfl))
theorem gw457 : Cond.fieldLink RX11 152 "WirelessCell$Puts" "used" "I" ∈ GW := mG19 (List.mem_append_left _ (List.mem_of_getElem? (i := 1) rfl))
theorem gw458 : Cond.methodLink RX11 149 yX8_addLast ∈ GW := mG19 (List.mem_append_left _ (List.mem_of_getElem? (i := 2) rfl))
theorem gw459 : Cond.instanceMethod yX8_addLast ∈ GW := mG19 (List.mem_append_left _ (List.mem_of_getElem? (i := 3) rfl))
theorem gw460 : Cond.selects RX8 yX8_addLast yX8_addLast ∈ GW := mG19 (List.mem_append_left _ (List.mem_of_getElem? (i := 4) rfl))
theorem gw461 : Cond.code yX8_addLast cX8_addLast 4 (some .boolean) ∈ GW := mG19 (List.mem_append_left _ (List.mem_of_getElem? (i := 5) rfl))
theorem gw462 : Cond.fieldLink RX8 23 "WirelessCell$Puts" "used" "I" ∈ GW := mG19 (List.mem_append_left _ (List.mem_of_getElem? (i := 6) rfl))
theorem gw463 : Cond.methodLink RX8 27 arraycopyName ∈ GW := mG19 (List.mem_append_left _ (List.mem_of_getElem? (i := 7) rfl))
theorem gw464 : Cond.methodLink RL 75 yX12_put ∈ GW := mG19 (List.mem_append_left _ (List.mem_of_getElem? (i := 8) rfl))
theorem gw465 : Cond.instanceMethod yX12_put ∈ GW := mG19 (List.mem_append_left _ (List.mem_of_getElem? (i := 9) rfl))
theorem gw466 : Cond.selects RX12 yX12_put yX12_put ∈ GW := mG19 (List.mem_append_left _ (List.mem_of_getElem? (i := 10) rfl))
theorem gw467 : Cond.code yX12_put cX12_put 3 (some .int) ∈ GW := mG19 (List.mem_append_left _ (List.mem_of_getElem? (i := 11) rfl))
theorem gw468 : Cond.fieldLink RX12 476 "WirelessCellModel" "putMany" "I" ∈ GW := mG19 (List.mem_append_left _ (List.mem_of_getElem? (i := 12) rfl))
theorem gw469 : Cond.methodLink RL 76 yX11_join ∈ GW := mG19 (List.mem_append_left _ (List.mem_of_getElem? (i := 13) rfl))
theorem gw470 : Cond.instanceMethod yX11_join ∈ GW := mG19 (List.mem_append_left _ (List.mem_of_getElem? (i := 14) rfl))
theorem gw471 : Cond.selects RX11 yX11_join yX11_join ∈ GW := mG19 (List.mem_append_left _ (List.mem_of_getElem? (i := 15) rfl))
theorem gw472 : Cond.code yX11_join cX11_join 2 (some .int) ∈ GW := mG19 (List.mem_append_left _ (List.mem_of_getElem? (i := 16) rfl))
theorem gw473 : Cond.fieldLink RX11 158 "WirelessCell$Link" "asked" "Z" ∈ GW := mG19 (List.mem_append_left _ (List.mem_of_getElem? (i := 17) rfl))
theorem gw474 : Cond.methodLink RX11 155 yX4_loseKey ∈ GW := mG19 (List.mem_append_left _ (List.mem_of_getElem? (i := 18) rfl))
theorem gw475 : Cond.instanceMethod yX4_loseKey ∈ GW := mG19 (List.mem_append_left _ (List.mem_of_getElem? (i := 19) rfl))
theorem gw476 : Cond.selects RX4 yX4_loseKey yX4_loseKey ∈ GW := mG19 (List.mem_append_left _ (List.mem_of_getElem? (i := 20) rfl))
theorem gw477 : Cond.code yX4_loseKey cX4_loseKey 2 none ∈ GW := mG19 (List.mem_append_left _ (List.mem_of_getElem? (i := 21) rfl))
theorem gw478 : Cond.fieldLink RX4 37 "WirelessCell$Link" "hasTried" "Z" ∈ GW := mG19 (List.mem_append_left _ (List.mem_of_getElem? (i := 22) rfl))
theorem gw479 : Cond.fieldLink RX4 41 "WirelessCell$Link" "begun" "Z" ∈ GW := mG19 (List.mem_append_left _ (List.mem_of_getElem? (i := 23) rfl))
theorem gw480 : Cond.methodLink RX11 162 yX11_queueBody ∈ GW := mG20 (List.mem_append_left _ (List.mem_of_getElem? (i := 0) rfl))
theorem gw481 : Cond.instanceMethod yX11_queueBody ∈ GW := mG20 (List.mem_append_left _ (List.mem_of_getElem? (i := 1) rfl))
theorem gw482 : Cond.selects RX11 yX11_queueBody yX11_queueBody ∈ GW := mG20 (List.mem_append_left _ (List.mem_of_getElem? (i := 2) rfl))
theorem gw483 : Cond.code yX11_queueBody cX11_queueBody 6 none ∈ GW := mG20 (List.mem_append_left _ (List.mem_of_getElem? (i := 3) rfl))
theorem gw484 : Cond.fieldLink RX11 195 "WirelessCell$Message" "bytes" "[I" ∈ GW := mG20 (List.mem_append_left _ (List.mem_of_getElem? (i := 4) rfl))
theorem gw485 : Cond.fieldLink RX11 202 "WirelessCell$Message" "length" "I" ∈ GW := mG20 (List.mem_append_left _ (List.mem_of_getElem? (i := 5) rfl))
theorem gw486 : Cond.methodLink RX11 180 yX11_openMessage ∈ GW := mG20 (List.mem_append_left _ (List.mem_of_getElem? (i := 6) rfl))
theorem gw487 : Cond.instanceMethod yX11_openMessage ∈ GW := mG20 (List.mem_append_left _ (List.mem_of_getElem? (i := 7) rfl))
theorem gw488 : Cond.selects RX11 yX11_openMessage yX11_openMessage ∈ GW := mG20 (List.mem_append_left _ (List.mem_of_getElem? (i := 8) rfl))
theorem gw489 : Cond.code yX11_openMessage cX11_openMessage 7 (some (.object "WirelessCell$Message")) ∈ GW := mG20 (List.mem_append_left _ (List.mem_of_getElem? (i := 9) rfl))
theorem gw490 : Cond.fieldLink RX11 247 "WirelessCell$Node" "queue" "LWirelessCell$Queue;" ∈ GW := mG20 (List.mem_append_left _ (List.mem_of_getElem? (i := 10) rfl))
theorem gw491 : Cond.fieldLink RX11 251 "WirelessCell$Queue" "used" "I" ∈ GW := mG20 (List.mem_append_left _ (List.mem_of_getElem? (i := 11) rfl))
theorem gw492 : Cond.fieldLink RX11 304 "WirelessCell$Message" "kind" "I" ∈ GW := mG20 (List.mem_append_left _ (List.mem_of_getElem? (i := 12) rfl))
theorem gw493 : Cond.fieldLink RX11 307 "WirelessCell$Message" "receiver" "I" ∈ GW := mG20 (List.mem_append_left _ (List.mem_of_getElem? (i := 13) rfl))
theorem gw494 : Cond.fieldLink RX11 189 "WirelessCell$Message" "third" "I" ∈ GW := mG20 (List.mem_append_left _ (List.mem_of_getElem? (i := 14) rfl))
theorem gw495 : Cond.fieldLink RX11 184 "WirelessCell$Message" "sealed" "Z" ∈ GW := mG20 (List.mem_append_left _ (List.mem_of_getElem? (i := 15) rfl))
theorem gw496 : Cond.fieldLink RX11 310 "WirelessCell$Message" "cut" "I" ∈ GW := mG20 (List.mem_append_left _ (List.mem_of_getElem? (i := 16) rfl))
theorem gw497 : Cond.fieldLink RX11 192 "WirelessCell$Message" "submission" "I" ∈ GW := mG20 (List.mem_append_left _ (List.mem_of_getElem? (i := 17) rfl))
theorem gw498 : Cond.fieldLink RX11 257 "WirelessCell$Node" "cw" "I" ∈ GW := mG20 (List.mem_append_left _ (List.mem_of_getElem? (i := 18) rfl))
theorem gw499 : Cond.fieldLink RX11 254 "WirelessCell$Node" "backoff" "I" ∈ GW := mG20 (List.mem_append_left _ (List.mem_of_getElem? (i := 19) rfl))
theorem gw500 : Cond.methodLink RX11 301 yX9_addLast ∈ GW := mG20 (List.mem_append_left _ (List.mem_of_getElem? (i := 20) rfl))
theorem gw501 : Cond.instanceMethod yX9_addLast ∈ GW := mG20 (List.mem_append_left _ (List.mem_of_getElem? (i := 21) rfl))
theorem gw502 : Cond.selects RX9 yX9_addLast yX9_addLast ∈ GW := mG20 (List.mem_append_left _ (List.mem_of_getElem? (i := 22) rfl))
theorem gw503 : Cond.code yX9_addLast cX9_addLast 2 (some (.object "WirelessCell$Message")) ∈ GW := mG20 (List.mem_append_left _ (List.mem_of_getElem? (i := 23) rfl))
theorem gw504 : Cond.fieldLink RX9 20 "WirelessCell$Queue" "used" "I" ∈ GW := mG21 (List.mem_append_left _ (List.mem_of_getElem? (i := 0) rfl))
theorem gw505 : Cond.fieldLink RX9 16 "WirelessCell$Queue" "firstRow" "I" ∈ GW := mG21 (List.mem_append_left _ (List.mem_of_getElem? (i := 1) rfl))
theorem gw506 : Cond.fieldLink RX9 23 "WirelessCell$Queue" "nextSequence" "I" ∈ GW := mG21 (List.mem_append_left _ (List.mem_of_getElem? (i := 2) rfl))
theorem gw507 : Cond.fieldLink RX9 26 "WirelessCell$Message" "sequence" "I" ∈ GW := mG21 (List.mem_append_left _ (List.mem_of_getElem? (i := 3) rfl))
theorem gw508 : Cond.methodLink RX11 313 yX1_takeFirst ∈ GW := mG21 (List.mem_append_left _ (List.mem_of_getElem? (i := 4) rfl))
theorem gw509 : Cond.instanceMethod yX1_takeFirst ∈ GW := mG21 (List.mem_append_left _ (List.mem_of_getElem? (i := 5) rfl))
theorem gw510 : Cond.selects RX1 yX1_takeFirst yX1_takeFirst ∈ GW := mG21 (List.mem_append_left _ (List.mem_of_getElem? (i := 6) rfl))
theorem gw511 : Cond.code yX1_takeFirst cX1_takeFirst 2 (some .int) ∈ GW := mG21 (List.mem_append_left _ (List.mem_of_getElem? (i := 7) rfl))
theorem gw512 : Cond.methodLink RX11 316 yX2_writeBody ∈ GW := mG21 (List.mem_append_left _ (List.mem_of_getElem? (i := 8) rfl))
theorem gw513 : Cond.static yX2_writeBody ∈ GW := mG21 (List.mem_append_left _ (List.mem_of_getElem? (i := 9) rfl))
theorem gw514 : Cond.code yX2_writeBody cX2_writeBody 3 (some .int) ∈ GW := mG21 (List.mem_append_left _ (List.mem_of_getElem? (i := 10) rfl))
theorem gw515 : Cond.methodLink RX2 26 yJ7_fill_fda19 ∈ GW := mG21 (List.mem_append_left _ (List.mem_of_getElem? (i := 11) rfl))
theorem gw516 : Cond.static yJ7_fill_fda19 ∈ GW := mG21 (List.mem_append_left _ (List.mem_of_getElem? (i := 12) rfl))
theorem gw517 : Cond.code yJ7_fill_fda19 cJ7_fill_fda19 5 none ∈ GW := mG21 (List.mem_append_left _ (List.mem_of_getElem? (i := 13) rfl))
theorem gw518 : Cond.methodLink RJ7 13 yJ7_rangeCheck_23922 ∈ GW := mG21 (List.mem_append_left _ (List.mem_of_getElem? (i := 14) rfl))
theorem gw519 : Cond.static yJ7_rangeCheck_23922 ∈ GW := mG21 (List.mem_append_left _ (List.mem_of_getElem? (i := 15) rfl))
theorem gw520 : Cond.code yJ7_rangeCheck_23922 cJ7_rangeCheck_23922 3 none ∈ GW := mG21 (List.mem_append_left _ (List.mem_of_getElem? (i := 16) rfl))
theorem gw521 : Cond.methodLink RL 79 yX12_join ∈ GW := mG21 (List.mem_append_left _ (List.mem_of_getElem? (i := 17) rfl))
theorem gw522 : Cond.instanceMethod yX12_join ∈ GW := mG21 (List.mem_append_left _ (List.mem_of_getElem? (i := 18) rfl))
theorem gw523 : Cond.selects RX12 yX12_join yX12_join ∈ GW := mG21 (List.mem_append_left _ (List.mem_of_getElem? (i := 19) rfl))
theorem gw524 : Cond.code yX12_join cX12_join 3 (some .int) ∈ GW := mG21 (List.mem_append_left _ (List.mem_of_getElem? (i := 20) rfl))
theorem gw525 : Cond.fieldLink RX12 404 "WirelessCellModel" "length" "I" ∈ GW := mG21 (List.mem_append_left _ (List.mem_of_getElem? (i := 21) rfl))
theorem gw526 : Cond.methodLink RX12 548 yX12_unkey ∈ GW := mG21 (List.mem_append_left _ (List.mem_of_getElem? (i := 22) rfl))
theorem gw527 : Cond.instanceMethod yX12_unkey ∈ GW := mG21 (List.mem_append_left _ (List.mem_of_getElem? (i := 23) rfl))
theorem gw528 : Cond.selects RX12 yX12_unkey yX12_unkey ∈ GW := mG22 (List.mem_append_left _ (List.mem_of_getElem? (i := 0) rfl))
theorem gw529 : Cond.code yX12_unkey cX12_unkey 2 none ∈ GW := mG22 (List.mem_append_left _ (List.mem_of_getElem? (i := 1) rfl))
theorem gw530 : Cond.methodLink RX12 534 yX12_add ∈ GW := mG22 (List.mem_append_left _ (List.mem_of_getElem? (i := 2) rfl))
theorem gw531 : Cond.instanceMethod yX12_add ∈ GW := mG22 (List.mem_append_left _ (List.mem_of_getElem? (i := 3) rfl))
theorem gw532 : Cond.selects RX12 yX12_add yX12_add ∈ GW := mG22 (List.mem_append_left _ (List.mem_of_getElem? (i := 4) rfl))
theorem gw533 : Cond.code yX12_add cX12_add 2 none ∈ GW := mG22 (List.mem_append_left _ (List.mem_of_getElem? (i := 5) rfl))
theorem gw534 : Cond.methodLink RX12 540 yX12_enqueue ∈ GW := mG22 (List.mem_append_left _ (List.mem_of_getElem? (i := 6) rfl))
theorem gw535 : Cond.instanceMethod yX12_enqueue ∈ GW := mG22 (List.mem_append_left _ (List.mem_of_getElem? (i := 7) rfl))
theorem gw536 : Cond.selects RX12 yX12_enqueue yX12_enqueue ∈ GW := mG22 (List.mem_append_left _ (List.mem_of_getElem? (i := 8) rfl))
theorem gw537 : Cond.code yX12_enqueue cX12_enqueue 8 none ∈ GW := mG22 (List.mem_append_left _ (List.mem_of_getElem? (i := 9) rfl))
theorem gw538 : Cond.methodLink RX12 407 yX12_isEnded ∈ GW := mG22 (List.mem_append_left _ (List.mem_of_getElem? (i := 10) rfl))
theorem gw539 : Cond.instanceMethod yX12_isEnded ∈ GW := mG22 (List.mem_append_left _ (List.mem_of_getElem? (i := 11) rfl))
theorem gw540 : Cond.selects RX12 yX12_isEnded yX12_isEnded ∈ GW := mG22 (List.mem_append_left _ (List.mem_of_getElem? (i := 12) rfl))
theorem gw541 : Cond.code yX12_isEnded cX12_isEnded 3 none ∈ GW := mG22 (List.mem_append_left _ (List.mem_of_getElem? (i := 13) rfl))
theorem gw542 : Cond.methodLink RX12 411 yX12_begins ∈ GW := mG22 (List.mem_append_left _ (List.mem_of_getElem? (i := 14) rfl))
theorem gw543 : Cond.instanceMethod yX12_begins ∈ GW := mG22 (List.mem_append_left _ (List.mem_of_getElem? (i := 15) rfl))
theorem gw544 : Cond.selects RX12 yX12_begins yX12_begins ∈ GW := mG22 (List.mem_append_left _ (List.mem_of_getElem? (i := 16) rfl))
theorem gw545 : Cond.code yX12_begins cX12_begins 2 none ∈ GW := mG22 (List.mem_append_left _ (List.mem_of_getElem? (i := 17) rfl))
theorem gw546 : Cond.methodLink RX12 414 yX12_drawn ∈ GW := mG22 (List.mem_append_left _ (List.mem_of_getElem? (i := 18) rfl))
theorem gw547 : Cond.instanceMethod yX12_drawn ∈ GW := mG22 (List.mem_append_left _ (List.mem_of_getElem? (i := 19) rfl))
theorem gw548 : Cond.selects RX12 yX12_drawn yX12_drawn ∈ GW := mG22 (List.mem_append_left _ (List.mem_of_getElem? (i := 20) rfl))
theorem gw549 : Cond.code yX12_drawn cX12_drawn 1 (some .int) ∈ GW := mG22 (List.mem_append_left _ (List.mem_of_getElem? (i := 21) rfl))
theorem gw550 : Cond.methodLink RL 80 yX11_leave ∈ GW := mG22 (List.mem_append_left _ (List.mem_of_getElem? (i := 22) rfl))
theorem gw551 : Cond.instanceMethod yX11_leave ∈ GW := mG22 (List.mem_append_left _ (List.mem_of_getElem? (i := 23) rfl))
theorem gw552 : Cond.selects RX11 yX11_leave yX11_leave ∈ GW := mG23 (List.mem_append_left _ (List.mem_of_getElem? (i := 0) rfl))
theorem gw553 : Cond.code yX11_leave cX11_leave 3 (some .int) ∈ GW := mG23 (List.mem_append_left _ (List.mem_of_getElem? (i := 1) rfl))
theorem gw554 : Cond.methodLink RL 83 yX12_leave ∈ GW := mG23 (List.mem_append_left _ (List.mem_of_getElem? (i := 2) rfl))
theorem gw555 : Cond.instanceMethod yX12_leave ∈ GW := mG23 (List.mem_append_left _ (List.mem_of_getElem? (i := 3) rfl))
theorem gw556 : Cond.selects RX12 yX12_leave yX12_leave ∈ GW := mG23 (List.mem_append_left _ (List.mem_of_getElem? (i := 4) rfl))
theorem gw557 : Cond.code yX12_leave cX12_leave 3 (some .int) ∈ GW := mG23 (List.mem_append_left _ (List.mem_of_getElem? (i := 5) rfl))
theorem gw558 : Cond.methodLink RX12 557 yX12_sendsEnd ∈ GW := mG23 (List.mem_append_left _ (List.mem_of_getElem? (i := 6) rfl))
theorem gw559 : Cond.instanceMethod yX12_sendsEnd ∈ GW := mG23 (List.mem_append_left _ (List.mem_of_getElem? (i := 7) rfl))
theorem gw560 : Cond.selects RX12 yX12_sendsEnd yX12_sendsEnd ∈ GW := mG23 (List.mem_append_left _ (List.mem_of_getElem? (i := 8) rfl))
theorem gw561 : Cond.code yX12_sendsEnd cX12_sendsEnd 4 none ∈ GW := mG23 (List.mem_append_left _ (List.mem_of_getElem? (i := 9) rfl))
theorem gw562 : Cond.methodLink RL 84 yX11_submit ∈ GW := mG23 (List.mem_append_left _ (List.mem_of_getElem? (i := 10) rfl))
theorem gw563 : Cond.instanceMethod yX11_submit ∈ GW := mG23 (List.mem_append_left _ (List.mem_of_getElem? (i := 11) rfl))
theorem gw564 : Cond.selects RX11 yX11_submit yX11_submit ∈ GW := mG23 (List.mem_append_left _ (List.mem_of_getElem? (i := 12) rfl))
theorem gw565 : Cond.code yX11_submit cX11_submit 4 (some .int) ∈ GW := mG23 (List.mem_append_left _ (List.mem_of_getElem? (i := 13) rfl))
theorem gw566 : Cond.fieldLink RX11 166 "WirelessCell" "submissions" "I" ∈ GW := mG23 (List.mem_append_left _ (List.mem_of_getElem? (i := 14) rfl))
theorem gw567 : Cond.methodLink RX11 169 yX11_queueTape ∈ GW := mG23 (List.mem_append_left _ (List.mem_of_getElem? (i := 15) rfl))
theorem gw568 : Cond.instanceMethod yX11_queueTape ∈ GW := mG23 (List.mem_append_left _ (List.mem_of_getElem? (i := 16) rfl))
theorem gw569 : Cond.selects RX11 yX11_queueTape yX11_queueTape ∈ GW := mG23 (List.mem_append_left _ (List.mem_of_getElem? (i := 17) rfl))
theorem gw570 : Cond.code yX11_queueTape cX11_queueTape 6 (some .int) ∈ GW := mG23 (List.mem_append_left _ (List.mem_of_getElem? (i := 18) rfl))
theorem gw571 : Cond.fieldLink RX11 177 "WirelessCell$Link" "state" "I" ∈ GW := mG23 (List.mem_append_left _ (List.mem_of_getElem? (i := 19) rfl))
theorem gw572 : Cond.methodLink RX11 173 yX11_linkOf ∈ GW := mG23 (List.mem_append_left _ (List.mem_of_getElem? (i := 20) rfl))
theorem gw573 : Cond.instanceMethod yX11_linkOf ∈ GW := mG23 (List.mem_append_left _ (List.mem_of_getElem? (i := 21) rfl))
theorem gw574 : Cond.selects RX11 yX11_linkOf yX11_linkOf ∈ GW := mG23 (List.mem_append_left _ (List.mem_of_getElem? (i := 22) rfl))
theorem gw575 : Cond.code yX11_linkOf cX11_linkOf 3 (some (.object "WirelessCell$Link")) ∈ GW := mG23 (List.mem_append_left _ (List.mem_of_getElem? (i := 23) rfl))
theorem gw576 : Cond.methodLink RX11 198 yX2_writeHead ∈ GW := mG24 (List.mem_append_left _ (List.mem_of_getElem? (i := 0) rfl))
theorem gw577 : Cond.static yX2_writeHead ∈ GW := mG24 (List.mem_append_left _ (List.mem_of_getElem? (i := 1) rfl))
theorem gw578 : Cond.code yX2_writeHead cX2_writeHead 3 none ∈ GW := mG24 (List.mem_append_left _ (List.mem_of_getElem? (i := 2) rfl))
theorem gw579 : Cond.fieldLink RX2 73 "WirelessCell$Frames" "HEAD" "[I" ∈ GW := mG24 (List.mem_append_left _ (List.mem_of_getElem? (i := 3) rfl))
theorem gw580 : Cond.methodLink RX2 76 arraycopyName ∈ GW := mG24 (List.mem_append_left _ (List.mem_of_getElem? (i := 4) rfl))
theorem gw581 : Cond.methodLink RL 87 yX12_submit ∈ GW := mG24 (List.mem_append_left _ (List.mem_of_getElem? (i := 5) rfl))
theorem gw582 : Cond.instanceMethod yX12_submit ∈ GW := mG24 (List.mem_append_left _ (List.mem_of_getElem? (i := 6) rfl))
theorem gw583 : Cond.selects RX12 yX12_submit yX12_submit ∈ GW := mG24 (List.mem_append_left _ (List.mem_of_getElem? (i := 7) rfl))
theorem gw584 : Cond.code yX12_submit cX12_submit 6 (some .int) ∈ GW := mG24 (List.mem_append_left _ (List.mem_of_getElem? (i := 8) rfl))
theorem gw585 : Cond.fieldLink RX12 607 "WirelessCellModel" "submissions" "I" ∈ GW := mG24 (List.mem_append_left _ (List.mem_of_getElem? (i := 9) rfl))
theorem gw586 : Cond.methodLink RX12 537 yX12_beginsMessage ∈ GW := mG24 (List.mem_append_left _ (List.mem_of_getElem? (i := 10) rfl))
theorem gw587 : Cond.instanceMethod yX12_beginsMessage ∈ GW := mG24 (List.mem_append_left _ (List.mem_of_getElem? (i := 11) rfl))
theorem gw588 : Cond.selects RX12 yX12_beginsMessage yX12_beginsMessage ∈ GW := mG24 (List.mem_append_left _ (List.mem_of_getElem? (i := 12) rfl))
theorem gw589 : Cond.code yX12_beginsMessage cX12_beginsMessage 3 none ∈ GW := mG24 (List.mem_append_left _ (List.mem_of_getElem? (i := 13) rfl))
theorem gw590 : Cond.methodLink RL 88 yX11_go ∈ GW := mG24 (List.mem_append_left _ (List.mem_of_getElem? (i := 14) rfl))
theorem gw591 : Cond.instanceMethod yX11_go ∈ GW := mG24 (List.mem_append_left _ (List.mem_of_getElem? (i := 15) rfl))
theorem gw592 : Cond.selects RX11 yX11_go yX11_go ∈ GW := mG24 (List.mem_append_left _ (List.mem_of_getElem? (i := 16) rfl))
theorem gw593 : Cond.code yX11_go cX11_go 6 (some .int) ∈ GW := mG24 (List.mem_append_left _ (List.mem_of_getElem? (i := 17) rfl))
theorem gw594 : Cond.fieldLink RX11 205 "WirelessCell$Medium" "began" "I" ∈ GW := mG24 (List.mem_append_left _ (List.mem_of_getElem? (i := 18) rfl))
theorem gw595 : Cond.methodLink RX11 208 yX11_idleSlots ∈ GW := mG24 (List.mem_append_left _ (List.mem_of_getElem? (i := 19) rfl))
theorem gw596 : Cond.instanceMethod yX11_idleSlots ∈ GW := mG24 (List.mem_append_left _ (List.mem_of_getElem? (i := 20) rfl))
theorem gw597 : Cond.selects RX11 yX11_idleSlots yX11_idleSlots ∈ GW := mG24 (List.mem_append_left _ (List.mem_of_getElem? (i := 21) rfl))
theorem gw598 : Cond.code yX11_idleSlots cX11_idleSlots 3 (some .int) ∈ GW := mG24 (List.mem_append_left _ (List.mem_of_getElem? (i := 22) rfl))
theorem gw599 : Cond.fieldLink RX11 341 "WirelessCell$Medium" "onAir" "I" ∈ GW := mG24 (List.mem_append_left _ (List.mem_of_getElem? (i := 23) rfl))
theorem gw600 : Cond.fieldLink RX11 344 "WirelessCell$Node" "dueSlot" "I" ∈ GW := mG25 (List.mem_append_left _ (List.mem_of_getElem? (i := 0) rfl))
theorem gw601 : Cond.methodLink RX11 347 yX8_slotsAhead ∈ GW := mG25 (List.mem_append_left _ (List.mem_of_getElem? (i := 1) rfl))
theorem gw602 : Cond.instanceMethod yX8_slotsAhead ∈ GW := mG25 (List.mem_append_left _ (List.mem_of_getElem? (i := 2) rfl))
theorem gw603 : Cond.selects RX8 yX8_slotsAhead yX8_slotsAhead ∈ GW := mG25 (List.mem_append_left _ (List.mem_of_getElem? (i := 3) rfl))
theorem gw604 : Cond.code yX8_slotsAhead cX8_slotsAhead 5 (some .int) ∈ GW := mG25 (List.mem_append_left _ (List.mem_of_getElem? (i := 4) rfl))
theorem gw605 : Cond.methodLink RX8 33 Lib.Math.min.name ∈ GW := mG25 (List.mem_append_left _ (List.mem_of_getElem? (i := 5) rfl))
theorem gw606 : Cond.static Lib.Math.min.name ∈ GW := mG25 (List.mem_append_left _ (List.mem_of_getElem? (i := 6) rfl))
theorem gw607 : Cond.initialized "java/lang/Math" ∈ GW := mG25 (List.mem_append_left _ (List.mem_of_getElem? (i := 7) rfl))
theorem gw608 : Cond.code Lib.Math.min.name Lib.Math.min.code 2 (some .int) ∈ GW := mG25 (List.mem_append_left _ (List.mem_of_getElem? (i := 8) rfl))
theorem gw609 : Cond.methodLink RX11 211 yX5_passQuiet ∈ GW := mG25 (List.mem_append_left _ (List.mem_of_getElem? (i := 9) rfl))
theorem gw610 : Cond.instanceMethod yX5_passQuiet ∈ GW := mG25 (List.mem_append_left _ (List.mem_of_getElem? (i := 10) rfl))
theorem gw611 : Cond.selects RX5 yX5_passQuiet yX5_passQuiet ∈ GW := mG25 (List.mem_append_left _ (List.mem_of_getElem? (i := 11) rfl))
theorem gw612 : Cond.code yX5_passQuiet cX5_passQuiet 2 none ∈ GW := mG25 (List.mem_append_left _ (List.mem_of_getElem? (i := 12) rfl))
theorem gw613 : Cond.fieldLink RX5 52 "WirelessCell$Medium" "slot" "I" ∈ GW := mG25 (List.mem_append_left _ (List.mem_of_getElem? (i := 13) rfl))
theorem gw614 : Cond.fieldLink RX5 55 "WirelessCell$Medium" "quietSlots" "I" ∈ GW := mG25 (List.mem_append_left _ (List.mem_of_getElem? (i := 14) rfl))
theorem gw615 : Cond.methodLink RX11 214 yX11_beginNodes ∈ GW := mG25 (List.mem_append_left _ (List.mem_of_getElem? (i := 15) rfl))
theorem gw616 : Cond.instanceMethod yX11_beginNodes ∈ GW := mG25 (List.mem_append_left _ (List.mem_of_getElem? (i := 16) rfl))
theorem gw617 : Cond.selects RX11 yX11_beginNodes yX11_beginNodes ∈ GW := mG25 (List.mem_append_left _ (List.mem_of_getElem? (i := 17) rfl))
theorem gw618 : Cond.code yX11_beginNodes cX11_beginNodes 4 none ∈ GW := mG25 (List.mem_append_left _ (List.mem_of_getElem? (i := 18) rfl))
theorem gw619 : Cond.fieldLink RX11 354 "WirelessCell$Node" "dueAck" "Z" ∈ GW := mG25 (List.mem_append_left _ (List.mem_of_getElem? (i := 19) rfl))
theorem gw620 : Cond.methodLink RX11 350 yX5_isQuietSince ∈ GW := mG25 (List.mem_append_left _ (List.mem_of_getElem? (i := 20) rfl))
theorem gw621 : Cond.instanceMethod yX5_isQuietSince ∈ GW := mG25 (List.mem_append_left _ (List.mem_of_getElem? (i := 21) rfl))
theorem gw622 : Cond.selects RX5 yX5_isQuietSince yX5_isQuietSince ∈ GW := mG25 (List.mem_append_left _ (List.mem_of_getElem? (i := 22) rfl))
theorem gw623 : Cond.code yX5_isQuietSince cX5_isQuietSince 1 (some .boolean) ∈ GW := mG25 (List.mem_append_left _ (List.mem_of_getElem? (i := 23) rfl))
theorem gw624 : Cond.methodLink RX11 357 yX11_beginAck ∈ GW := mG26 (List.mem_append_left _ (List.mem_of_getElem? (i := 0) rfl))
theorem gw625 : Cond.instanceMethod yX11_beginAck ∈ GW := mG26 (List.mem_append_left _ (List.mem_of_getElem? (i := 1) rfl))
theorem gw626 : Cond.selects RX11 yX11_beginAck yX11_beginAck ∈ GW := mG26 (List.mem_append_left _ (List.mem_of_getElem? (i := 2) rfl))
theorem gw627 : Cond.code yX11_beginAck cX11_beginAck 2 none ∈ GW := mG26 (List.mem_append_left _ (List.mem_of_getElem? (i := 3) rfl))
theorem gw628 : Cond.fieldLink RX11 372 "WirelessCell$Node" "ackTo" "[I" ∈ GW := mG26 (List.mem_append_left _ (List.mem_of_getElem? (i := 4) rfl))
theorem gw629 : Cond.fieldLink RX11 375 "WirelessCell$Node" "number" "I" ∈ GW := mG26 (List.mem_append_left _ (List.mem_of_getElem? (i := 5) rfl))
theorem gw630 : Cond.fieldLink RX11 380 "WirelessCell$Node" "lastSendSlot" "I" ∈ GW := mG26 (List.mem_append_left _ (List.mem_of_getElem? (i := 6) rfl))
theorem gw631 : Cond.fieldLink RX11 383 "WirelessCell$Node" "sendsAck" "Z" ∈ GW := mG26 (List.mem_append_left _ (List.mem_of_getElem? (i := 7) rfl))
theorem gw632 : Cond.methodLink RX11 367 yJ7_fill_53178 ∈ GW := mG26 (List.mem_append_left _ (List.mem_of_getElem? (i := 8) rfl))
theorem gw633 : Cond.methodLink RX11 378 yX5_begin ∈ GW := mG26 (List.mem_append_left _ (List.mem_of_getElem? (i := 9) rfl))
theorem gw634 : Cond.instanceMethod yX5_begin ∈ GW := mG26 (List.mem_append_left _ (List.mem_of_getElem? (i := 10) rfl))
theorem gw635 : Cond.selects RX5 yX5_begin yX5_begin ∈ GW := mG26 (List.mem_append_left _ (List.mem_of_getElem? (i := 11) rfl))
theorem gw636 : Cond.code yX5_begin cX5_begin 5 (some .int) ∈ GW := mG26 (List.mem_append_left _ (List.mem_of_getElem? (i := 12) rfl))
theorem gw637 : Cond.methodLink RX5 65 Lib.Math.min.name ∈ GW := mG26 (List.mem_append_left _ (List.mem_of_getElem? (i := 13) rfl))
theorem gw638 : Cond.methodLink RX5 71 arraycopyName ∈ GW := mG26 (List.mem_append_left _ (List.mem_of_getElem? (i := 14) rfl))
theorem gw639 : Cond.fieldLink RX5 77 "WirelessCell$Medium" "began" "I" ∈ GW := mG26 (List.mem_append_left _ (List.mem_of_getElem? (i := 15) rfl))
theorem gw640 : Cond.fieldLink RX5 80 "WirelessCell$Medium" "onAir" "I" ∈ GW := mG26 (List.mem_append_left _ (List.mem_of_getElem? (i := 16) rfl))
theorem gw641 : Cond.methodLink RX5 58 yX5_slotsOf ∈ GW := mG26 (List.mem_append_left _ (List.mem_of_getElem? (i := 17) rfl))
theorem gw642 : Cond.static yX5_slotsOf ∈ GW := mG26 (List.mem_append_left _ (List.mem_of_getElem? (i := 18) rfl))
theorem gw643 : Cond.code yX5_slotsOf cX5_slotsOf 1 (some .int) ∈ GW := mG26 (List.mem_append_left _ (List.mem_of_getElem? (i := 19) rfl))
theorem gw644 : Cond.methodLink RX11 361 yX11_beginFrame ∈ GW := mG26 (List.mem_append_left _ (List.mem_of_getElem? (i := 20) rfl))
theorem gw645 : Cond.instanceMethod yX11_beginFrame ∈ GW := mG26 (List.mem_append_left _ (List.mem_of_getElem? (i := 21) rfl))
theorem gw646 : Cond.selects RX11 yX11_beginFrame yX11_beginFrame ∈ GW := mG26 (List.mem_append_left _ (List.mem_of_getElem? (i := 22) rfl))
theorem gw647 : Cond.code yX11_beginFrame cX11_beginFrame 4 none ∈ GW := mG26 (List.mem_append_left _ (List.mem_of_getElem? (i := 23) rfl))
theorem gw648 : Cond.fieldLink RX11 338 "WirelessCell$Node" "frameLength" "I" ∈ GW := mG27 (List.mem_append_left _ (List.mem_of_getElem? (i := 0) rfl))
theorem gw649 : Cond.fieldLink RX11 394 "WirelessCell$Node" "frame" "[I" ∈ GW := mG27 (List.mem_append_left _ (List.mem_of_getElem? (i := 1) rfl))
theorem gw650 : Cond.methodLink RX11 329 yX9_first ∈ GW := mG27 (List.mem_append_left _ (List.mem_of_getElem? (i := 2) rfl))
theorem gw651 : Cond.instanceMethod yX9_first ∈ GW := mG27 (List.mem_append_left _ (List.mem_of_getElem? (i := 3) rfl))
theorem gw652 : Cond.selects RX9 yX9_first yX9_first ∈ GW := mG27 (List.mem_append_left _ (List.mem_of_getElem? (i := 4) rfl))
theorem gw653 : Cond.code yX9_first cX9_first 1 (some (.object "WirelessCell$Message")) ∈ GW := mG27 (List.mem_append_left _ (List.mem_of_getElem? (i := 5) rfl))
theorem gw654 : Cond.methodLink RX11 386 yX11_finishFirst ∈ GW := mG27 (List.mem_append_left _ (List.mem_of_getElem? (i := 6) rfl))
theorem gw655 : Cond.instanceMethod yX11_finishFirst ∈ GW := mG27 (List.mem_append_left _ (List.mem_of_getElem? (i := 7) rfl))
theorem gw656 : Cond.selects RX11 yX11_finishFirst yX11_finishFirst ∈ GW := mG27 (List.mem_append_left _ (List.mem_of_getElem? (i := 8) rfl))
theorem gw657 : Cond.code yX11_finishFirst cX11_finishFirst 4 none ∈ GW := mG27 (List.mem_append_left _ (List.mem_of_getElem? (i := 9) rfl))
theorem gw658 : Cond.fieldLink RX11 260 "WirelessCell$Node" "tries" "I" ∈ GW := mG27 (List.mem_append_left _ (List.mem_of_getElem? (i := 10) rfl))
theorem gw659 : Cond.fieldLink RX11 335 "WirelessCell$Node" "part" "I" ∈ GW := mG27 (List.mem_append_left _ (List.mem_of_getElem? (i := 11) rfl))
theorem gw660 : Cond.methodLink RX11 332 yX9_removeFirst ∈ GW := mG27 (List.mem_append_left _ (List.mem_of_getElem? (i := 12) rfl))
theorem gw661 : Cond.instanceMethod yX9_removeFirst ∈ GW := mG27 (List.mem_append_left _ (List.mem_of_getElem? (i := 13) rfl))
theorem gw662 : Cond.selects RX9 yX9_removeFirst yX9_removeFirst ∈ GW := mG27 (List.mem_append_left _ (List.mem_of_getElem? (i := 14) rfl))
theorem gw663 : Cond.code yX9_removeFirst cX9_removeFirst 1 none ∈ GW := mG27 (List.mem_append_left _ (List.mem_of_getElem? (i := 15) rfl))
theorem gw664 : Cond.methodLink RX11 390 yX11_makeFrame ∈ GW := mG27 (List.mem_append_left _ (List.mem_of_getElem? (i := 16) rfl))
theorem gw665 : Cond.instanceMethod yX11_makeFrame ∈ GW := mG27 (List.mem_append_left _ (List.mem_of_getElem? (i := 17) rfl))
theorem gw666 : Cond.selects RX11 yX11_makeFrame yX11_makeFrame ∈ GW := mG27 (List.mem_append_left _ (List.mem_of_getElem? (i := 18) rfl))
theorem gw667 : Cond.code yX11_makeFrame cX11_makeFrame 8 none ∈ GW := mG27 (List.mem_append_left _ (List.mem_of_getElem? (i := 19) rfl))
theorem gw668 : Cond.methodLink RX11 397 Lib.Math.min.name ∈ GW := mG27 (List.mem_append_left _ (List.mem_of_getElem? (i := 20) rfl))
theorem gw669 : Cond.fieldLink RX11 406 "WirelessCell$Link" "nextToSeal" "J" ∈ GW := mG27 (List.mem_append_left _ (List.mem_of_getElem? (i := 21) rfl))
theorem gw670 : Cond.fieldLink RX11 284 "WirelessCell$Link" "tk" "[I" ∈ GW := mG27 (List.mem_append_left _ (List.mem_of_getElem? (i := 22) rfl))
theorem gw671 : Cond.methodLink RX11 402 yX2_writeHeader ∈ GW := mG27 (List.mem_append_left _ (List.mem_of_getElem? (i := 23) rfl))
theorem gw672 : Cond.static yX2_writeHeader ∈ GW := mG28 (List.mem_append_left _ (List.mem_of_getElem? (i := 0) rfl))
theorem gw673 : Cond.code yX2_writeHeader cX2_writeHeader 5 none ∈ GW := mG28 (List.mem_append_left _ (List.mem_of_getElem? (i := 1) rfl))
theorem gw674 : Cond.fieldLink RX2 36 "WirelessCell$Message" "kind" "I" ∈ GW := mG28 (List.mem_append_left _ (List.mem_of_getElem? (i := 2) rfl))
theorem gw675 : Cond.fieldLink RX2 46 "WirelessCell$Message" "receiver" "I" ∈ GW := mG28 (List.mem_append_left _ (List.mem_of_getElem? (i := 3) rfl))
theorem gw676 : Cond.fieldLink RX2 53 "WirelessCell$Message" "third" "I" ∈ GW := mG28 (List.mem_append_left _ (List.mem_of_getElem? (i := 4) rfl))
theorem gw677 : Cond.fieldLink RX2 56 "WirelessCell$Message" "sequence" "I" ∈ GW := mG28 (List.mem_append_left _ (List.mem_of_getElem? (i := 5) rfl))
theorem gw678 : Cond.methodLink RX2 42 yX2_dataFlags ∈ GW := mG28 (List.mem_append_left _ (List.mem_of_getElem? (i := 6) rfl))
theorem gw679 : Cond.static yX2_dataFlags ∈ GW := mG28 (List.mem_append_left _ (List.mem_of_getElem? (i := 7) rfl))
theorem gw680 : Cond.code yX2_dataFlags cX2_dataFlags 4 (some .int) ∈ GW := mG28 (List.mem_append_left _ (List.mem_of_getElem? (i := 8) rfl))
theorem gw681 : Cond.fieldLink RX2 59 "WirelessCell$Message" "cut" "I" ∈ GW := mG28 (List.mem_append_left _ (List.mem_of_getElem? (i := 9) rfl))
theorem gw682 : Cond.fieldLink RX2 62 "WirelessCell$Message" "length" "I" ∈ GW := mG28 (List.mem_append_left _ (List.mem_of_getElem? (i := 10) rfl))
theorem gw683 : Cond.fieldLink RX2 65 "WirelessCell$Message" "sealed" "Z" ∈ GW := mG28 (List.mem_append_left _ (List.mem_of_getElem? (i := 11) rfl))
theorem gw684 : Cond.methodLink RX2 49 yX2_writeAddress ∈ GW := mG28 (List.mem_append_left _ (List.mem_of_getElem? (i := 12) rfl))
theorem gw685 : Cond.static yX2_writeAddress ∈ GW := mG28 (List.mem_append_left _ (List.mem_of_getElem? (i := 13) rfl))
theorem gw686 : Cond.code yX2_writeAddress cX2_writeAddress 3 none ∈ GW := mG28 (List.mem_append_left _ (List.mem_of_getElem? (i := 14) rfl))
theorem gw687 : Cond.methodLink RX11 410 yX2_writeSealHeader ∈ GW := mG28 (List.mem_append_left _ (List.mem_of_getElem? (i := 15) rfl))
theorem gw688 : Cond.static yX2_writeSealHeader ∈ GW := mG28 (List.mem_append_left _ (List.mem_of_getElem? (i := 16) rfl))
theorem gw689 : Cond.code yX2_writeSealHeader cX2_writeSealHeader 4 none ∈ GW := mG28 (List.mem_append_left _ (List.mem_of_getElem? (i := 17) rfl))
theorem gw690 : Cond.methodLink RX11 414 yX0_seal ∈ GW := mG28 (List.mem_append_left _ (List.mem_of_getElem? (i := 18) rfl))
theorem gw691 : Cond.instanceMethod yX0_seal ∈ GW := mG28 (List.mem_append_left _ (List.mem_of_getElem? (i := 19) rfl))
theorem gw692 : Cond.selects RX0 yX0_seal yX0_seal ∈ GW := mG28 (List.mem_append_left _ (List.mem_of_getElem? (i := 20) rfl))
theorem gw693 : Cond.code yX0_seal cX0_seal 5 none ∈ GW := mG28 (List.mem_append_left _ (List.mem_of_getElem? (i := 21) rfl))
theorem gw694 : Cond.methodLink RX0 31 arraycopyName ∈ GW := mG28 (List.mem_append_left _ (List.mem_of_getElem? (i := 22) rfl))
theorem gw695 : Cond.methodLink RX0 27 yX0_expandKey ∈ GW := mG28 (List.mem_append_left _ (List.mem_of_getElem? (i := 23) rfl))
theorem gw696 : Cond.instanceMethod yX0_expandKey ∈ GW := mG29 (List.mem_append_left _ (List.mem_of_getElem? (i := 0) rfl))
theorem gw697 : Cond.selects RX0 yX0_expandKey yX0_expandKey ∈ GW := mG29 (List.mem_append_left _ (List.mem_of_getElem? (i := 1) rfl))
theorem gw698 : Cond.code yX0_expandKey cX0_expandKey 7 none ∈ GW := mG29 (List.mem_append_left _ (List.mem_of_getElem? (i := 2) rfl))
theorem gw699 : Cond.fieldLink RX0 55 "WirelessCell$Ccm" "SBOX" "[I" ∈ GW := mG29 (List.mem_append_left _ (List.mem_of_getElem? (i := 3) rfl))
theorem gw700 : Cond.methodLink RX0 37 yX0_addUp ∈ GW := mG29 (List.mem_append_left _ (List.mem_of_getElem? (i := 4) rfl))
theorem gw701 : Cond.instanceMethod yX0_addUp ∈ GW := mG29 (List.mem_append_left _ (List.mem_of_getElem? (i := 5) rfl))
theorem gw702 : Cond.selects RX0 yX0_addUp yX0_addUp ∈ GW := mG29 (List.mem_append_left _ (List.mem_of_getElem? (i := 6) rfl))
theorem gw703 : Cond.code yX0_addUp cX0_addUp 5 none ∈ GW := mG29 (List.mem_append_left _ (List.mem_of_getElem? (i := 7) rfl))
theorem gw704 : Cond.methodLink RX0 45 yX0_setFirstBlock ∈ GW := mG29 (List.mem_append_left _ (List.mem_of_getElem? (i := 8) rfl))
theorem gw705 : Cond.static yX0_setFirstBlock ∈ GW := mG29 (List.mem_append_left _ (List.mem_of_getElem? (i := 9) rfl))
theorem gw706 : Cond.code yX0_setFirstBlock cX0_setFirstBlock 5 none ∈ GW := mG29 (List.mem_append_left _ (List.mem_of_getElem? (i := 10) rfl))
theorem gw707 : Cond.methodLink RX0 48 yX0_encrypt ∈ GW := mG29 (List.mem_append_left _ (List.mem_of_getElem? (i := 11) rfl))
theorem gw708 : Cond.instanceMethod yX0_encrypt ∈ GW := mG29 (List.mem_append_left _ (List.mem_of_getElem? (i := 12) rfl))
theorem gw709 : Cond.selects RX0 yX0_encrypt yX0_encrypt ∈ GW := mG29 (List.mem_append_left _ (List.mem_of_getElem? (i := 13) rfl))
theorem gw710 : Cond.code yX0_encrypt cX0_encrypt 7 none ∈ GW := mG29 (List.mem_append_left _ (List.mem_of_getElem? (i := 14) rfl))
theorem gw711 : Cond.methodLink RX0 51 yX0_additional ∈ GW := mG29 (List.mem_append_left _ (List.mem_of_getElem? (i := 15) rfl))
theorem gw712 : Cond.static yX0_additional ∈ GW := mG29 (List.mem_append_left _ (List.mem_of_getElem? (i := 16) rfl))
theorem gw713 : Cond.code yX0_additional cX0_additional 2 (some .int) ∈ GW := mG29 (List.mem_append_left _ (List.mem_of_getElem? (i := 17) rfl))
theorem gw714 : Cond.methodLink RX0 41 yX0_crypt ∈ GW := mG29 (List.mem_append_left _ (List.mem_of_getElem? (i := 18) rfl))
theorem gw715 : Cond.instanceMethod yX0_crypt ∈ GW := mG29 (List.mem_append_left _ (List.mem_of_getElem? (i := 19) rfl))
theorem gw716 : Cond.selects RX0 yX0_crypt yX0_crypt ∈ GW := mG29 (List.mem_append_left _ (List.mem_of_getElem? (i := 20) rfl))
theorem gw717 : Cond.code yX0_crypt cX0_crypt 6 none ∈ GW := mG29 (List.mem_append_left _ (List.mem_of_getElem? (i := 21) rfl))
theorem gw718 : Cond.methodLink RX11 364 yX7_contends ∈ GW := mG29 (List.mem_append_left _ (List.mem_of_getElem? (i := 22) rfl))
theorem gw719 : Cond.instanceMethod yX7_contends ∈ GW := mG29 (List.mem_append_left _ (List.mem_of_getElem? (i := 23) rfl))
theorem gw720 : Cond.selects RX7 yX7_contends yX7_contends ∈ GW := mG30 (List.mem_append_left _ (List.mem_of_getElem? (i := 0) rfl))
theorem gw721 : Cond.code yX7_contends cX7_contends 2 (some .boolean) ∈ GW := mG30 (List.mem_append_left _ (List.mem_of_getElem? (i := 1) rfl))
theorem gw722 : Cond.fieldLink RX7 60 "WirelessCell$Queue" "used" "I" ∈ GW := mG30 (List.mem_append_left _ (List.mem_of_getElem? (i := 2) rfl))
theorem gw723 : Cond.methodLink RX11 217 yX8_begin ∈ GW := mG30 (List.mem_append_left _ (List.mem_of_getElem? (i := 3) rfl))
theorem gw724 : Cond.instanceMethod yX8_begin ∈ GW := mG30 (List.mem_append_left _ (List.mem_of_getElem? (i := 4) rfl))
theorem gw725 : Cond.selects RX8 yX8_begin yX8_begin ∈ GW := mG30 (List.mem_append_left _ (List.mem_of_getElem? (i := 5) rfl))
theorem gw726 : Cond.code yX8_begin cX8_begin 4 none ∈ GW := mG30 (List.mem_append_left _ (List.mem_of_getElem? (i := 6) rfl))
theorem gw727 : Cond.fieldLink RX8 39 "WirelessCell$Medium" "slot" "I" ∈ GW := mG30 (List.mem_append_left _ (List.mem_of_getElem? (i := 7) rfl))
theorem gw728 : Cond.methodLink RX8 44 yX5_begin ∈ GW := mG30 (List.mem_append_left _ (List.mem_of_getElem? (i := 8) rfl))
theorem gw729 : Cond.methodLink RX8 48 yX8_moveUp ∈ GW := mG30 (List.mem_append_left _ (List.mem_of_getElem? (i := 9) rfl))
theorem gw730 : Cond.instanceMethod yX8_moveUp ∈ GW := mG30 (List.mem_append_left _ (List.mem_of_getElem? (i := 10) rfl))
theorem gw731 : Cond.selects RX8 yX8_moveUp yX8_moveUp ∈ GW := mG30 (List.mem_append_left _ (List.mem_of_getElem? (i := 11) rfl))
theorem gw732 : Cond.code yX8_moveUp cX8_moveUp 4 none ∈ GW := mG30 (List.mem_append_left _ (List.mem_of_getElem? (i := 12) rfl))
theorem gw733 : Cond.methodLink RX11 221 yX5_closeBeginnings ∈ GW := mG30 (List.mem_append_left _ (List.mem_of_getElem? (i := 13) rfl))
theorem gw734 : Cond.instanceMethod yX5_closeBeginnings ∈ GW := mG30 (List.mem_append_left _ (List.mem_of_getElem? (i := 14) rfl))
theorem gw735 : Cond.selects RX5 yX5_closeBeginnings yX5_closeBeginnings ∈ GW := mG30 (List.mem_append_left _ (List.mem_of_getElem? (i := 15) rfl))
theorem gw736 : Cond.code yX5_closeBeginnings cX5_closeBeginnings 1 none ∈ GW := mG30 (List.mem_append_left _ (List.mem_of_getElem? (i := 16) rfl))
theorem gw737 : Cond.methodLink RX5 83 yX5_isNoisy ∈ GW := mG30 (List.mem_append_left _ (List.mem_of_getElem? (i := 17) rfl))
theorem gw738 : Cond.instanceMethod yX5_isNoisy ∈ GW := mG30 (List.mem_append_left _ (List.mem_of_getElem? (i := 18) rfl))
theorem gw739 : Cond.selects RX5 yX5_isNoisy yX5_isNoisy ∈ GW := mG30 (List.mem_append_left _ (List.mem_of_getElem? (i := 19) rfl))
theorem gw740 : Cond.code yX5_isNoisy cX5_isNoisy 2 (some .boolean) ∈ GW := mG30 (List.mem_append_left _ (List.mem_of_getElem? (i := 20) rfl))
theorem gw741 : Cond.methodLink RX5 87 yX5_spoilAll ∈ GW := mG30 (List.mem_append_left _ (List.mem_of_getElem? (i := 21) rfl))
theorem gw742 : Cond.instanceMethod yX5_spoilAll ∈ GW := mG30 (List.mem_append_left _ (List.mem_of_getElem? (i := 22) rfl))
theorem gw743 : Cond.selects RX5 yX5_spoilAll yX5_spoilAll ∈ GW := mG30 (List.mem_append_left _ (List.mem_of_getElem? (i := 23) rfl))
theorem gw744 : Cond.code yX5_spoilAll cX5_spoilAll 2 none ∈ GW := mG31 (List.mem_append_left _ (List.mem_of_getElem? (i := 0) rfl))
theorem gw745 : Cond.methodLink RX11 224 yX11_endFrames ∈ GW := mG31 (List.mem_append_left _ (List.mem_of_getElem? (i := 1) rfl))
theorem gw746 : Cond.instanceMethod yX11_endFrames ∈ GW := mG31 (List.mem_append_left _ (List.mem_of_getElem? (i := 2) rfl))
theorem gw747 : Cond.selects RX11 yX11_endFrames yX11_endFrames ∈ GW := mG31 (List.mem_append_left _ (List.mem_of_getElem? (i := 3) rfl))
theorem gw748 : Cond.code yX11_endFrames cX11_endFrames 3 (some .int) ∈ GW := mG31 (List.mem_append_left _ (List.mem_of_getElem? (i := 4) rfl))
theorem gw749 : Cond.fieldLink RX11 263 "WirelessCell$Node" "waitsFrom" "I" ∈ GW := mG31 (List.mem_append_left _ (List.mem_of_getElem? (i := 5) rfl))
theorem gw750 : Cond.methodLink RX11 418 yX5_closeEndings ∈ GW := mG31 (List.mem_append_left _ (List.mem_of_getElem? (i := 6) rfl))
theorem gw751 : Cond.instanceMethod yX5_closeEndings ∈ GW := mG31 (List.mem_append_left _ (List.mem_of_getElem? (i := 7) rfl))
theorem gw752 : Cond.selects RX5 yX5_closeEndings yX5_closeEndings ∈ GW := mG31 (List.mem_append_left _ (List.mem_of_getElem? (i := 8) rfl))
theorem gw753 : Cond.code yX5_closeEndings cX5_closeEndings 4 (some .boolean) ∈ GW := mG31 (List.mem_append_left _ (List.mem_of_getElem? (i := 9) rfl))
theorem gw754 : Cond.fieldLink RX5 90 "WirelessCell$Medium" "notClean" "I" ∈ GW := mG31 (List.mem_append_left _ (List.mem_of_getElem? (i := 10) rfl))
theorem gw755 : Cond.methodLink RX11 421 yX11_takeFrame ∈ GW := mG31 (List.mem_append_left _ (List.mem_of_getElem? (i := 11) rfl))
theorem gw756 : Cond.instanceMethod yX11_takeFrame ∈ GW := mG31 (List.mem_append_left _ (List.mem_of_getElem? (i := 12) rfl))
theorem gw757 : Cond.selects RX11 yX11_takeFrame yX11_takeFrame ∈ GW := mG31 (List.mem_append_left _ (List.mem_of_getElem? (i := 13) rfl))
theorem gw758 : Cond.code yX11_takeFrame cX11_takeFrame 5 (some .int) ∈ GW := mG31 (List.mem_append_left _ (List.mem_of_getElem? (i := 14) rfl))
theorem gw759 : Cond.methodLink RX11 228 yX5_newestBytes ∈ GW := mG31 (List.mem_append_left _ (List.mem_of_getElem? (i := 15) rfl))
theorem gw760 : Cond.instanceMethod yX5_newestBytes ∈ GW := mG31 (List.mem_append_left _ (List.mem_of_getElem? (i := 16) rfl))
theorem gw761 : Cond.selects RX5 yX5_newestBytes yX5_newestBytes ∈ GW := mG31 (List.mem_append_left _ (List.mem_of_getElem? (i := 17) rfl))
theorem gw762 : Cond.code yX5_newestBytes cX5_newestBytes 1 (some (.array .int)) ∈ GW := mG31 (List.mem_append_left _ (List.mem_of_getElem? (i := 18) rfl))
theorem gw763 : Cond.methodLink RX11 424 yX5_newestLength ∈ GW := mG31 (List.mem_append_left _ (List.mem_of_getElem? (i := 19) rfl))
theorem gw764 : Cond.instanceMethod yX5_newestLength ∈ GW := mG31 (List.mem_append_left _ (List.mem_of_getElem? (i := 20) rfl))
theorem gw765 : Cond.selects RX5 yX5_newestLength yX5_newestLength ∈ GW := mG31 (List.mem_append_left _ (List.mem_of_getElem? (i := 21) rfl))
theorem gw766 : Cond.code yX5_newestLength cX5_newestLength 1 (some .int) ∈ GW := mG31 (List.mem_append_left _ (List.mem_of_getElem? (i := 22) rfl))
theorem gw767 : Cond.methodLink RX11 427 yX2_isTakeable ∈ GW := mG31 (List.mem_append_left _ (List.mem_of_getElem? (i := 23) rfl))
theorem gw768 : Cond.static yX2_isTakeable ∈ GW := mG32 (List.mem_append_left _ (List.mem_of_getElem? (i := 0) rfl))
theorem gw769 : Cond.code yX2_isTakeable cX2_isTakeable 2 (some .boolean) ∈ GW := mG32 (List.mem_append_left _ (List.mem_of_getElem? (i := 1) rfl))
theorem gw770 : Cond.methodLink RX2 19 yX2_hasToldControl ∈ GW := mG32 (List.mem_append_left _ (List.mem_of_getElem? (i := 2) rfl))
theorem gw771 : Cond.static yX2_hasToldControl ∈ GW := mG32 (List.mem_append_left _ (List.mem_of_getElem? (i := 3) rfl))
theorem gw772 : Cond.code yX2_hasToldControl cX2_hasToldControl 2 (some .boolean) ∈ GW := mG32 (List.mem_append_left _ (List.mem_of_getElem? (i := 4) rfl))
theorem gw773 : Cond.methodLink RX2 23 yX2_hasRightFcs ∈ GW := mG32 (List.mem_append_left _ (List.mem_of_getElem? (i := 5) rfl))
theorem gw774 : Cond.static yX2_hasRightFcs ∈ GW := mG32 (List.mem_append_left _ (List.mem_of_getElem? (i := 6) rfl))
theorem gw775 : Cond.code yX2_hasRightFcs cX2_hasRightFcs 5 (some .boolean) ∈ GW := mG32 (List.mem_append_left _ (List.mem_of_getElem? (i := 7) rfl))
theorem gw776 : Cond.methodLink RX11 431 yX2_nodeAt ∈ GW := mG32 (List.mem_append_left _ (List.mem_of_getElem? (i := 8) rfl))
theorem gw777 : Cond.static yX2_nodeAt ∈ GW := mG32 (List.mem_append_left _ (List.mem_of_getElem? (i := 9) rfl))
theorem gw778 : Cond.code yX2_nodeAt cX2_nodeAt 3 (some .int) ∈ GW := mG32 (List.mem_append_left _ (List.mem_of_getElem? (i := 10) rfl))
theorem gw779 : Cond.methodLink RX11 435 yX5_newestSender ∈ GW := mG32 (List.mem_append_left _ (List.mem_of_getElem? (i := 11) rfl))
theorem gw780 : Cond.instanceMethod yX5_newestSender ∈ GW := mG32 (List.mem_append_left _ (List.mem_of_getElem? (i := 12) rfl))
theorem gw781 : Cond.selects RX5 yX5_newestSender yX5_newestSender ∈ GW := mG32 (List.mem_append_left _ (List.mem_of_getElem? (i := 13) rfl))
theorem gw782 : Cond.code yX5_newestSender cX5_newestSender 1 (some .int) ∈ GW := mG32 (List.mem_append_left _ (List.mem_of_getElem? (i := 14) rfl))
theorem gw783 : Cond.methodLink RX11 438 yX11_takeAck ∈ GW := mG32 (List.mem_append_left _ (List.mem_of_getElem? (i := 15) rfl))
theorem gw784 : Cond.instanceMethod yX11_takeAck ∈ GW := mG32 (List.mem_append_left _ (List.mem_of_getElem? (i := 16) rfl))
theorem gw785 : Cond.selects RX11 yX11_takeAck yX11_takeAck ∈ GW := mG32 (List.mem_append_left _ (List.mem_of_getElem? (i := 17) rfl))
theorem gw786 : Cond.code yX11_takeAck cX11_takeAck 3 none ∈ GW := mG32 (List.mem_append_left _ (List.mem_of_getElem? (i := 18) rfl))
theorem gw787 : Cond.methodLink RX11 441 yX7_dropsAgain ∈ GW := mG32 (List.mem_append_left _ (List.mem_of_getElem? (i := 19) rfl))
theorem gw788 : Cond.instanceMethod yX7_dropsAgain ∈ GW := mG32 (List.mem_append_left _ (List.mem_of_getElem? (i := 20) rfl))
theorem gw789 : Cond.selects RX7 yX7_dropsAgain yX7_dropsAgain ∈ GW := mG32 (List.mem_append_left _ (List.mem_of_getElem? (i := 21) rfl))
theorem gw790 : Cond.code yX7_dropsAgain cX7_dropsAgain 4 (some .boolean) ∈ GW := mG32 (List.mem_append_left _ (List.mem_of_getElem? (i := 22) rfl))
theorem gw791 : Cond.fieldLink RX7 63 "WirelessCell$Node" "droppedAgain" "I" ∈ GW := mG32 (List.mem_append_left _ (List.mem_of_getElem? (i := 23) rfl))
theorem gw792 : Cond.methodLink RX11 232 yX11_takeData ∈ GW := mG33 (List.mem_append_left _ (List.mem_of_getElem? (i := 0) rfl))
theorem gw793 : Cond.instanceMethod yX11_takeData ∈ GW := mG33 (List.mem_append_left _ (List.mem_of_getElem? (i := 1) rfl))
theorem gw794 : Cond.selects RX11 yX11_takeData yX11_takeData ∈ GW := mG33 (List.mem_append_left _ (List.mem_of_getElem? (i := 2) rfl))
theorem gw795 : Cond.code yX11_takeData cX11_takeData 7 none ∈ GW := mG33 (List.mem_append_left _ (List.mem_of_getElem? (i := 3) rfl))
theorem gw796 : Cond.methodLink RX11 468 yX11_takeSealed ∈ GW := mG33 (List.mem_append_left _ (List.mem_of_getElem? (i := 4) rfl))
theorem gw797 : Cond.instanceMethod yX11_takeSealed ∈ GW := mG33 (List.mem_append_left _ (List.mem_of_getElem? (i := 5) rfl))
theorem gw798 : Cond.selects RX11 yX11_takeSealed yX11_takeSealed ∈ GW := mG33 (List.mem_append_left _ (List.mem_of_getElem? (i := 6) rfl))
theorem gw799 : Cond.code yX11_takeSealed cX11_takeSealed 7 (some .boolean) ∈ GW := mG33 (List.mem_append_left _ (List.mem_of_getElem? (i := 7) rfl))
theorem gw800 : Cond.fieldLink RX11 281 "WirelessCell$Node" "droppedSealed" "I" ∈ GW := mG33 (List.mem_append_left _ (List.mem_of_getElem? (i := 8) rfl))
theorem gw801 : Cond.fieldLink RX11 521 "WirelessCell$Link" "taken" "J" ∈ GW := mG33 (List.mem_append_left _ (List.mem_of_getElem? (i := 9) rfl))
theorem gw802 : Cond.fieldLink RX11 527 "WirelessCell$Ccm" "plain" "[I" ∈ GW := mG33 (List.mem_append_left _ (List.mem_of_getElem? (i := 10) rfl))
theorem gw803 : Cond.fieldLink RX11 534 "WirelessCell$Link" "begun" "Z" ∈ GW := mG33 (List.mem_append_left _ (List.mem_of_getElem? (i := 11) rfl))
theorem gw804 : Cond.fieldLink RX11 327 "WirelessCell$Link" "length" "I" ∈ GW := mG33 (List.mem_append_left _ (List.mem_of_getElem? (i := 12) rfl))
theorem gw805 : Cond.fieldLink RX11 328 "WirelessCell$Link" "bytes" "[I" ∈ GW := mG33 (List.mem_append_left _ (List.mem_of_getElem? (i := 13) rfl))
theorem gw806 : Cond.methodLink RX11 517 yX2_sealNumber ∈ GW := mG33 (List.mem_append_left _ (List.mem_of_getElem? (i := 14) rfl))
theorem gw807 : Cond.static yX2_sealNumber ∈ GW := mG33 (List.mem_append_left _ (List.mem_of_getElem? (i := 15) rfl))
theorem gw808 : Cond.code yX2_sealNumber cX2_sealNumber 4 (some .long) ∈ GW := mG33 (List.mem_append_left _ (List.mem_of_getElem? (i := 16) rfl))
theorem gw809 : Cond.constantLong RX2 69 (256) ∈ GW := mG33 (List.mem_append_left _ (List.mem_of_getElem? (i := 17) rfl))
theorem gw810 : Cond.constantLong RX2 71 (65536) ∈ GW := mG33 (List.mem_append_left _ (List.mem_of_getElem? (i := 18) rfl))
theorem gw811 : Cond.methodLink RX11 524 yX0_open ∈ GW := mG33 (List.mem_append_left _ (List.mem_of_getElem? (i := 19) rfl))
theorem gw812 : Cond.instanceMethod yX0_open ∈ GW := mG33 (List.mem_append_left _ (List.mem_of_getElem? (i := 20) rfl))
theorem gw813 : Cond.selects RX0 yX0_open yX0_open ∈ GW := mG33 (List.mem_append_left _ (List.mem_of_getElem? (i := 21) rfl))
theorem gw814 : Cond.code yX0_open cX0_open 6 (some .boolean) ∈ GW := mG33 (List.mem_append_left _ (List.mem_of_getElem? (i := 22) rfl))
theorem gw815 : Cond.methodLink RX11 530 yX4_addPart ∈ GW := mG33 (List.mem_append_left _ (List.mem_of_getElem? (i := 23) rfl))
theorem gw816 : Cond.instanceMethod yX4_addPart ∈ GW := mG34 (List.mem_append_left _ (List.mem_of_getElem? (i := 0) rfl))
theorem gw817 : Cond.selects RX4 yX4_addPart yX4_addPart ∈ GW := mG34 (List.mem_append_left _ (List.mem_of_getElem? (i := 1) rfl))
theorem gw818 : Cond.code yX4_addPart cX4_addPart 7 (some .boolean) ∈ GW := mG34 (List.mem_append_left _ (List.mem_of_getElem? (i := 2) rfl))
theorem gw819 : Cond.fieldLink RX4 53 "WirelessCell$Link" "sequence" "I" ∈ GW := mG34 (List.mem_append_left _ (List.mem_of_getElem? (i := 3) rfl))
theorem gw820 : Cond.fieldLink RX4 56 "WirelessCell$Link" "nextPart" "I" ∈ GW := mG34 (List.mem_append_left _ (List.mem_of_getElem? (i := 4) rfl))
theorem gw821 : Cond.fieldLink RX4 59 "WirelessCell$Link" "length" "I" ∈ GW := mG34 (List.mem_append_left _ (List.mem_of_getElem? (i := 5) rfl))
theorem gw822 : Cond.methodLink RX4 44 arraycopyName ∈ GW := mG34 (List.mem_append_left _ (List.mem_of_getElem? (i := 6) rfl))
theorem gw823 : Cond.methodLink RX11 537 yX2_hasHead ∈ GW := mG34 (List.mem_append_left _ (List.mem_of_getElem? (i := 7) rfl))
theorem gw824 : Cond.static yX2_hasHead ∈ GW := mG34 (List.mem_append_left _ (List.mem_of_getElem? (i := 8) rfl))
theorem gw825 : Cond.code yX2_hasHead cX2_hasHead 4 (some .boolean) ∈ GW := mG34 (List.mem_append_left _ (List.mem_of_getElem? (i := 9) rfl))
theorem gw826 : Cond.methodLink RX2 82 yX2_sameBytes ∈ GW := mG34 (List.mem_append_left _ (List.mem_of_getElem? (i := 10) rfl))
theorem gw827 : Cond.static yX2_sameBytes ∈ GW := mG34 (List.mem_append_left _ (List.mem_of_getElem? (i := 11) rfl))
theorem gw828 : Cond.code yX2_sameBytes cX2_sameBytes 6 (some .boolean) ∈ GW := mG34 (List.mem_append_left _ (List.mem_of_getElem? (i := 12) rfl))
theorem gw829 : Cond.methodLink RX11 472 yX11_passOn ∈ GW := mG34 (List.mem_append_left _ (List.mem_of_getElem? (i := 13) rfl))
theorem gw830 : Cond.instanceMethod yX11_passOn ∈ GW := mG34 (List.mem_append_left _ (List.mem_of_getElem? (i := 14) rfl))
theorem gw831 : Cond.selects RX11 yX11_passOn yX11_passOn ∈ GW := mG34 (List.mem_append_left _ (List.mem_of_getElem? (i := 15) rfl))
theorem gw832 : Cond.code yX11_passOn cX11_passOn 5 none ∈ GW := mG34 (List.mem_append_left _ (List.mem_of_getElem? (i := 16) rfl))
theorem gw833 : Cond.fieldLink RX11 269 "WirelessCell$Node" "inbox" "LWirelessCell$Inbox;" ∈ GW := mG34 (List.mem_append_left _ (List.mem_of_getElem? (i := 17) rfl))
theorem gw834 : Cond.methodLink RX11 483 yX3_addLast ∈ GW := mG34 (List.mem_append_left _ (List.mem_of_getElem? (i := 18) rfl))
theorem gw835 : Cond.instanceMethod yX3_addLast ∈ GW := mG34 (List.mem_append_left _ (List.mem_of_getElem? (i := 19) rfl))
theorem gw836 : Cond.selects RX3 yX3_addLast yX3_addLast ∈ GW := mG34 (List.mem_append_left _ (List.mem_of_getElem? (i := 20) rfl))
theorem gw837 : Cond.code yX3_addLast cX3_addLast 4 none ∈ GW := mG34 (List.mem_append_left _ (List.mem_of_getElem? (i := 21) rfl))
theorem gw838 : Cond.fieldLink RX3 23 "WirelessCell$Inbox" "delivered" "I" ∈ GW := mG34 (List.mem_append_left _ (List.mem_of_getElem? (i := 22) rfl))
theorem gw839 : Cond.methodLink RX3 27 arraycopyName ∈ GW := mG34 (List.mem_append_left _ (List.mem_of_getElem? (i := 23) rfl))
theorem gw840 : Cond.methodLink RX11 486 yX11_queueForward ∈ GW := mG35 (List.mem_append_left _ (List.mem_of_getElem? (i := 0) rfl))
theorem gw841 : Cond.instanceMethod yX11_queueForward ∈ GW := mG35 (List.mem_append_left _ (List.mem_of_getElem? (i := 1) rfl))
theorem gw842 : Cond.selects RX11 yX11_queueForward yX11_queueForward ∈ GW := mG35 (List.mem_append_left _ (List.mem_of_getElem? (i := 2) rfl))
theorem gw843 : Cond.code yX11_queueForward cX11_queueForward 5 none ∈ GW := mG35 (List.mem_append_left _ (List.mem_of_getElem? (i := 3) rfl))
theorem gw844 : Cond.methodLink RX11 476 yX11_takeHandAtAp ∈ GW := mG35 (List.mem_append_left _ (List.mem_of_getElem? (i := 4) rfl))
theorem gw845 : Cond.instanceMethod yX11_takeHandAtAp ∈ GW := mG35 (List.mem_append_left _ (List.mem_of_getElem? (i := 5) rfl))
theorem gw846 : Cond.selects RX11 yX11_takeHandAtAp yX11_takeHandAtAp ∈ GW := mG35 (List.mem_append_left _ (List.mem_of_getElem? (i := 6) rfl))
theorem gw847 : Cond.code yX11_takeHandAtAp cX11_takeHandAtAp 5 none ∈ GW := mG35 (List.mem_append_left _ (List.mem_of_getElem? (i := 7) rfl))
theorem gw848 : Cond.fieldLink RX11 497 "WirelessCell$Sha" "ptk" "[I" ∈ GW := mG35 (List.mem_append_left _ (List.mem_of_getElem? (i := 8) rfl))
theorem gw849 : Cond.fieldLink RX11 457 "WirelessCell$Link" "tried" "[I" ∈ GW := mG35 (List.mem_append_left _ (List.mem_of_getElem? (i := 9) rfl))
theorem gw850 : Cond.fieldLink RX11 508 "WirelessCell$Link" "hasTried" "Z" ∈ GW := mG35 (List.mem_append_left _ (List.mem_of_getElem? (i := 10) rfl))
theorem gw851 : Cond.methodLink RX11 490 yX2_handIn ∈ GW := mG35 (List.mem_append_left _ (List.mem_of_getElem? (i := 11) rfl))
theorem gw852 : Cond.static yX2_handIn ∈ GW := mG35 (List.mem_append_left _ (List.mem_of_getElem? (i := 12) rfl))
theorem gw853 : Cond.code yX2_handIn cX2_handIn 3 (some .int) ∈ GW := mG35 (List.mem_append_left _ (List.mem_of_getElem? (i := 13) rfl))
theorem gw854 : Cond.fieldLink RX2 86 "WirelessCell$Frames" "HAND_BYTES" "[I" ∈ GW := mG35 (List.mem_append_left _ (List.mem_of_getElem? (i := 14) rfl))
theorem gw855 : Cond.methodLink RX2 89 yX2_hasHead ∈ GW := mG35 (List.mem_append_left _ (List.mem_of_getElem? (i := 15) rfl))
theorem gw856 : Cond.methodLink RX11 493 yX10_derive ∈ GW := mG35 (List.mem_append_left _ (List.mem_of_getElem? (i := 16) rfl))
theorem gw857 : Cond.instanceMethod yX10_derive ∈ GW := mG35 (List.mem_append_left _ (List.mem_of_getElem? (i := 17) rfl))
theorem gw858 : Cond.selects RX10 yX10_derive yX10_derive ∈ GW := mG35 (List.mem_append_left _ (List.mem_of_getElem? (i := 18) rfl))
theorem gw859 : Cond.code yX10_derive cX10_derive 8 none ∈ GW := mG35 (List.mem_append_left _ (List.mem_of_getElem? (i := 19) rfl))
theorem gw860 : Cond.methodLink RX10 48 arraycopyName ∈ GW := mG35 (List.mem_append_left _ (List.mem_of_getElem? (i := 20) rfl))
theorem gw861 : Cond.methodLink RX10 32 yJ0_length_8abf5 ∈ GW := mG35 (List.mem_append_left _ (List.mem_of_getElem? (i := 21) rfl))
theorem gw862 : Cond.instanceMethod yJ0_length_8abf5 ∈ GW := mG35 (List.mem_append_left _ (List.mem_of_getElem? (i := 22) rfl))
theorem gw863 : Cond.selects RJ0 yJ0_length_8abf5 yJ0_length_8abf5 ∈ GW := mG35 (List.mem_append_left _ (List.mem_of_getElem? (i := 23) rfl))
theorem gw864 : Cond.initialized RJ0 ∈ GW := mG36 (List.mem_append_left _ (List.mem_of_getElem? (i := 0) rfl))
theorem gw865 : Cond.code yJ0_length_8abf5 cJ0_length_8abf5 1 (some .int) ∈ GW := mG36 (List.mem_append_left _ (List.mem_of_getElem? (i := 1) rfl))
theorem gw866 : Cond.fieldLink RJ0 9 "java/lang/String" "value" "[B" ∈ GW := mG36 (List.mem_append_left _ (List.mem_of_getElem? (i := 2) rfl))
theorem gw867 : Cond.methodLink RJ0 335 yJ0_coder_7d493 ∈ GW := mG36 (List.mem_append_left _ (List.mem_of_getElem? (i := 3) rfl))
theorem gw868 : Cond.instanceMethod yJ0_coder_7d493 ∈ GW := mG36 (List.mem_append_left _ (List.mem_of_getElem? (i := 4) rfl))
theorem gw869 : Cond.selects RJ0 yJ0_coder_7d493 yJ0_coder_7d493 ∈ GW := mG36 (List.mem_append_left _ (List.mem_of_getElem? (i := 5) rfl))
theorem gw870 : Cond.code yJ0_coder_7d493 cJ0_coder_7d493 1 (some .byte) ∈ GW := mG36 (List.mem_append_left _ (List.mem_of_getElem? (i := 6) rfl))
theorem gw871 : Cond.fieldLink RJ0 38 "java/lang/String" "COMPACT_STRINGS" "Z" ∈ GW := mG36 (List.mem_append_left _ (List.mem_of_getElem? (i := 7) rfl))
theorem gw872 : Cond.fieldLink RJ0 15 "java/lang/String" "coder" "B" ∈ GW := mG36 (List.mem_append_left _ (List.mem_of_getElem? (i := 8) rfl))
theorem gw873 : Cond.methodLink RX10 38 yJ0_charAt_5068e ∈ GW := mG36 (List.mem_append_left _ (List.mem_of_getElem? (i := 9) rfl))
theorem gw874 : Cond.instanceMethod yJ0_charAt_5068e ∈ GW := mG36 (List.mem_append_left _ (List.mem_of_getElem? (i := 10) rfl))
theorem gw875 : Cond.selects RJ0 yJ0_charAt_5068e yJ0_charAt_5068e ∈ GW := mG36 (List.mem_append_left _ (List.mem_of_getElem? (i := 11) rfl))
theorem gw876 : Cond.code yJ0_charAt_5068e cJ0_charAt_5068e 2 (some .char) ∈ GW := mG36 (List.mem_append_left _ (List.mem_of_getElem? (i := 12) rfl))
theorem gw877 : Cond.methodLink RJ0 492 yJ0_isLatin1_aae02 ∈ GW := mG36 (List.mem_append_left _ (List.mem_of_getElem? (i := 13) rfl))
theorem gw878 : Cond.instanceMethod yJ0_isLatin1_aae02 ∈ GW := mG36 (List.mem_append_left _ (List.mem_of_getElem? (i := 14) rfl))
theorem gw879 : Cond.selects RJ0 yJ0_isLatin1_aae02 yJ0_isLatin1_aae02 ∈ GW := mG36 (List.mem_append_left _ (List.mem_of_getElem? (i := 15) rfl))
theorem gw880 : Cond.code yJ0_isLatin1_aae02 cJ0_isLatin1_aae02 1 (some .boolean) ∈ GW := mG36 (List.mem_append_left _ (List.mem_of_getElem? (i := 16) rfl))
theorem gw881 : Cond.methodLink RJ0 495 yJ1_charAt_3b067 ∈ GW := mG36 (List.mem_append_left _ (List.mem_of_getElem? (i := 17) rfl))
theorem gw882 : Cond.static yJ1_charAt_3b067 ∈ GW := mG36 (List.mem_append_left _ (List.mem_of_getElem? (i := 18) rfl))
theorem gw883 : Cond.initialized RJ1 ∈ GW := mG36 (List.mem_append_left _ (List.mem_of_getElem? (i := 19) rfl))
theorem gw884 : Cond.code yJ1_charAt_3b067 cJ1_charAt_3b067 2 (some .char) ∈ GW := mG36 (List.mem_append_left _ (List.mem_of_getElem? (i := 20) rfl))
theorem gw885 : Cond.methodLink RJ1 9 yJ0_checkIndex_df160 ∈ GW := mG36 (List.mem_append_left _ (List.mem_of_getElem? (i := 21) rfl))
theorem gw886 : Cond.static yJ0_checkIndex_df160 ∈ GW := mG36 (List.mem_append_left _ (List.mem_of_getElem? (i := 22) rfl))
theorem gw887 : Cond.code yJ0_checkIndex_df160 cJ0_checkIndex_df160 2 none ∈ GW := mG36 (List.mem_append_left _ (List.mem_of_getElem? (i := 23) rfl))
theorem gw888 : Cond.fieldLink RJ0 1053 "jdk/internal/util/Preconditions" "SIOOBE_FORMATTER" "Ljava/util/function/BiFunction;" ∈ GW := mG37 (List.mem_append_left _ (List.mem_of_getElem? (i := 0) rfl))
theorem gw889 : Cond.methodLink RJ0 1059 yJ3_checkIndex_8e157 ∈ GW := mG37 (List.mem_append_left _ (List.mem_of_getElem? (i := 1) rfl))
theorem gw890 : Cond.static yJ3_checkIndex_8e157 ∈ GW := mG37 (List.mem_append_left _ (List.mem_of_getElem? (i := 2) rfl))
theorem gw891 : Cond.initialized RJ3 ∈ GW := mG37 (List.mem_append_left _ (List.mem_of_getElem? (i := 3) rfl))
theorem gw892 : Cond.code yJ3_checkIndex_8e157 cJ3_checkIndex_8e157 3 (some .int) ∈ GW := mG37 (List.mem_append_left _ (List.mem_of_getElem? (i := 4) rfl))
theorem gw893 : Cond.methodLink RJ0 498 yJ2_charAt_3b067 ∈ GW := mG37 (List.mem_append_left _ (List.mem_of_getElem? (i := 5) rfl))
theorem gw894 : Cond.static yJ2_charAt_3b067 ∈ GW := mG37 (List.mem_append_left _ (List.mem_of_getElem? (i := 6) rfl))
theorem gw895 : Cond.initialized RJ2 ∈ GW := mG37 (List.mem_append_left _ (List.mem_of_getElem? (i := 7) rfl))
theorem gw896 : Cond.code yJ2_charAt_3b067 cJ2_charAt_3b067 2 (some .char) ∈ GW := mG37 (List.mem_append_left _ (List.mem_of_getElem? (i := 8) rfl))
theorem gw897 : Cond.methodLink RJ2 67 yJ2_checkIndex_2214a ∈ GW := mG37 (List.mem_append_left _ (List.mem_of_getElem? (i := 9) rfl))
theorem gw898 : Cond.static yJ2_checkIndex_2214a ∈ GW := mG37 (List.mem_append_left _ (List.mem_of_getElem? (i := 10) rfl))
theorem gw899 : Cond.code yJ2_checkIndex_2214a cJ2_checkIndex_2214a 2 none ∈ GW := mG37 (List.mem_append_left _ (List.mem_of_getElem? (i := 11) rfl))
theorem gw900 : Cond.methodLink RJ2 48 yJ2_length_9d52b ∈ GW := mG37 (List.mem_append_left _ (List.mem_of_getElem? (i := 12) rfl))
theorem gw901 : Cond.static yJ2_length_9d52b ∈ GW := mG37 (List.mem_append_left _ (List.mem_of_getElem? (i := 13) rfl))
theorem gw902 : Cond.code yJ2_length_9d52b cJ2_length_9d52b 1 (some .int) ∈ GW := mG37 (List.mem_append_left _ (List.mem_of_getElem? (i := 14) rfl))
theorem gw903 : Cond.methodLink RJ2 414 yJ0_checkIndex_df160 ∈ GW := mG37 (List.mem_append_left _ (List.mem_of_getElem? (i := 15) rfl))
theorem gw904 : Cond.methodLink RJ2 71 yJ2_getChar_3b067 ∈ GW := mG37 (List.mem_append_left _ (List.mem_of_getElem? (i := 16) rfl))
theorem gw905 : Cond.static yJ2_getChar_3b067 ∈ GW := mG37 (List.mem_append_left _ (List.mem_of_getElem? (i := 17) rfl))
theorem gw906 : Cond.code yJ2_getChar_3b067 cJ2_getChar_3b067 2 (some .char) ∈ GW := mG37 (List.mem_append_left _ (List.mem_of_getElem? (i := 18) rfl))
theorem gw907 : Cond.fieldLink RJ2 44 "java/lang/StringUTF16" "$assertionsDisabled" "Z" ∈ GW := mG37 (List.mem_append_left _ (List.mem_of_getElem? (i := 19) rfl))
theorem gw908 : Cond.fieldLink RJ2 59 "java/lang/StringUTF16" "HI_BYTE_SHIFT" "I" ∈ GW := mG37 (List.mem_append_left _ (List.mem_of_getElem? (i := 20) rfl))
theorem gw909 : Cond.fieldLink RJ2 63 "java/lang/StringUTF16" "LO_BYTE_SHIFT" "I" ∈ GW := mG37 (List.mem_append_left _ (List.mem_of_getElem? (i := 21) rfl))
theorem gw910 : Cond.methodLink RX10 54 yX10_hashKeyed ∈ GW := mG37 (List.mem_append_left _ (List.mem_of_getElem? (i := 22) rfl))
theorem gw911 : Cond.instanceMethod yX10_hashKeyed ∈ GW := mG37 (List.mem_append_left _ (List.mem_of_getElem? (i := 23) rfl))
theorem gw912 : Cond.selects RX10 yX10_hashKeyed yX10_hashKeyed ∈ GW := mG38 (List.mem_append_left _ (List.mem_of_getElem? (i := 0) rfl))
theorem gw913 : Cond.code yX10_hashKeyed cX10_hashKeyed 6 none ∈ GW := mG38 (List.mem_append_left _ (List.mem_of_getElem? (i := 1) rfl))
theorem gw914 : Cond.methodLink RX10 58 yX10_padKey ∈ GW := mG38 (List.mem_append_left _ (List.mem_of_getElem? (i := 2) rfl))
theorem gw915 : Cond.instanceMethod yX10_padKey ∈ GW := mG38 (List.mem_append_left _ (List.mem_of_getElem? (i := 3) rfl))
theorem gw916 : Cond.selects RX10 yX10_padKey yX10_padKey ∈ GW := mG38 (List.mem_append_left _ (List.mem_of_getElem? (i := 4) rfl))
theorem gw917 : Cond.code yX10_padKey cX10_padKey 5 none ∈ GW := mG38 (List.mem_append_left _ (List.mem_of_getElem? (i := 5) rfl))
theorem gw918 : Cond.methodLink RX10 61 yX10_hashText ∈ GW := mG38 (List.mem_append_left _ (List.mem_of_getElem? (i := 6) rfl))
theorem gw919 : Cond.instanceMethod yX10_hashText ∈ GW := mG38 (List.mem_append_left _ (List.mem_of_getElem? (i := 7) rfl))
theorem gw920 : Cond.selects RX10 yX10_hashText yX10_hashText ∈ GW := mG38 (List.mem_append_left _ (List.mem_of_getElem? (i := 8) rfl))
theorem gw921 : Cond.code yX10_hashText cX10_hashText 5 none ∈ GW := mG38 (List.mem_append_left _ (List.mem_of_getElem? (i := 9) rfl))
theorem gw922 : Cond.constantLong RX10 71 (8) ∈ GW := mG38 (List.mem_append_left _ (List.mem_of_getElem? (i := 10) rfl))
theorem gw923 : Cond.constant RX10 77 (1732584193) ∈ GW := mG38 (List.mem_append_left _ (List.mem_of_getElem? (i := 11) rfl))
theorem gw924 : Cond.constant RX10 78 (-271733879) ∈ GW := mG38 (List.mem_append_left _ (List.mem_of_getElem? (i := 12) rfl))
theorem gw925 : Cond.constant RX10 79 (-1732584194) ∈ GW := mG38 (List.mem_append_left _ (List.mem_of_getElem? (i := 13) rfl))
theorem gw926 : Cond.constant RX10 80 (271733878) ∈ GW := mG38 (List.mem_append_left _ (List.mem_of_getElem? (i := 14) rfl))
theorem gw927 : Cond.constant RX10 81 (-1009589776) ∈ GW := mG38 (List.mem_append_left _ (List.mem_of_getElem? (i := 15) rfl))
theorem gw928 : Cond.methodLink RX10 65 yJ7_fill_fda19 ∈ GW := mG38 (List.mem_append_left _ (List.mem_of_getElem? (i := 16) rfl))
theorem gw929 : Cond.methodLink RX10 73 yX2_writeHighestFirst ∈ GW := mG38 (List.mem_append_left _ (List.mem_of_getElem? (i := 17) rfl))
theorem gw930 : Cond.methodLink RX10 82 yX10_fillWords ∈ GW := mG38 (List.mem_append_left _ (List.mem_of_getElem? (i := 18) rfl))
theorem gw931 : Cond.instanceMethod yX10_fillWords ∈ GW := mG38 (List.mem_append_left _ (List.mem_of_getElem? (i := 19) rfl))
theorem gw932 : Cond.selects RX10 yX10_fillWords yX10_fillWords ∈ GW := mG38 (List.mem_append_left _ (List.mem_of_getElem? (i := 20) rfl))
theorem gw933 : Cond.code yX10_fillWords cX10_fillWords 4 none ∈ GW := mG38 (List.mem_append_left _ (List.mem_of_getElem? (i := 21) rfl))
theorem gw934 : Cond.methodLink RX10 85 yX10_addWords ∈ GW := mG38 (List.mem_append_left _ (List.mem_of_getElem? (i := 22) rfl))
theorem gw935 : Cond.instanceMethod yX10_addWords ∈ GW := mG38 (List.mem_append_left _ (List.mem_of_getElem? (i := 23) rfl))
theorem gw936 : Cond.selects RX10 yX10_addWords yX10_addWords ∈ GW := mG39 (List.mem_append_left _ (List.mem_of_getElem? (i := 0) rfl))
theorem gw937 : Cond.code yX10_addWords cX10_addWords 9 none ∈ GW := mG39 (List.mem_append_left _ (List.mem_of_getElem? (i := 1) rfl))
theorem gw938 : Cond.constant RX10 88 (1518500249) ∈ GW := mG39 (List.mem_append_left _ (List.mem_of_getElem? (i := 2) rfl))
theorem gw939 : Cond.constant RX10 89 (1859775393) ∈ GW := mG39 (List.mem_append_left _ (List.mem_of_getElem? (i := 3) rfl))
theorem gw940 : Cond.constant RX10 90 (-1894007588) ∈ GW := mG39 (List.mem_append_left _ (List.mem_of_getElem? (i := 4) rfl))
theorem gw941 : Cond.constant RX10 91 (-899497514) ∈ GW := mG39 (List.mem_append_left _ (List.mem_of_getElem? (i := 5) rfl))
theorem gw942 : Cond.methodLink RX11 500 yX11_hasRightMic ∈ GW := mG39 (List.mem_append_left _ (List.mem_of_getElem? (i := 6) rfl))
theorem gw943 : Cond.instanceMethod yX11_hasRightMic ∈ GW := mG39 (List.mem_append_left _ (List.mem_of_getElem? (i := 7) rfl))
theorem gw944 : Cond.selects RX11 yX11_hasRightMic yX11_hasRightMic ∈ GW := mG39 (List.mem_append_left _ (List.mem_of_getElem? (i := 8) rfl))
theorem gw945 : Cond.code yX11_hasRightMic cX11_hasRightMic 4 (some .boolean) ∈ GW := mG39 (List.mem_append_left _ (List.mem_of_getElem? (i := 9) rfl))
theorem gw946 : Cond.fieldLink RX11 324 "WirelessCell$Sha" "digest" "[I" ∈ GW := mG39 (List.mem_append_left _ (List.mem_of_getElem? (i := 10) rfl))
theorem gw947 : Cond.methodLink RX11 320 yX10_hashKeyed ∈ GW := mG39 (List.mem_append_left _ (List.mem_of_getElem? (i := 11) rfl))
theorem gw948 : Cond.methodLink RX11 464 yX2_sameBytes ∈ GW := mG39 (List.mem_append_left _ (List.mem_of_getElem? (i := 12) rfl))
theorem gw949 : Cond.methodLink RX11 504 yX4_keepTried ∈ GW := mG39 (List.mem_append_left _ (List.mem_of_getElem? (i := 13) rfl))
theorem gw950 : Cond.instanceMethod yX4_keepTried ∈ GW := mG39 (List.mem_append_left _ (List.mem_of_getElem? (i := 14) rfl))
theorem gw951 : Cond.selects RX4 yX4_keepTried yX4_keepTried ∈ GW := mG39 (List.mem_append_left _ (List.mem_of_getElem? (i := 15) rfl))
theorem gw952 : Cond.code yX4_keepTried cX4_keepTried 2 none ∈ GW := mG39 (List.mem_append_left _ (List.mem_of_getElem? (i := 16) rfl))
theorem gw953 : Cond.methodLink RX11 460 yX11_queueHand ∈ GW := mG39 (List.mem_append_left _ (List.mem_of_getElem? (i := 17) rfl))
theorem gw954 : Cond.instanceMethod yX11_queueHand ∈ GW := mG39 (List.mem_append_left _ (List.mem_of_getElem? (i := 18) rfl))
theorem gw955 : Cond.selects RX11 yX11_queueHand yX11_queueHand ∈ GW := mG39 (List.mem_append_left _ (List.mem_of_getElem? (i := 19) rfl))
theorem gw956 : Cond.code yX11_queueHand cX11_queueHand 8 none ∈ GW := mG39 (List.mem_append_left _ (List.mem_of_getElem? (i := 20) rfl))
theorem gw957 : Cond.methodLink RX11 511 yX4_keyByTried ∈ GW := mG39 (List.mem_append_left _ (List.mem_of_getElem? (i := 21) rfl))
theorem gw958 : Cond.instanceMethod yX4_keyByTried ∈ GW := mG39 (List.mem_append_left _ (List.mem_of_getElem? (i := 22) rfl))
theorem gw959 : Cond.selects RX4 yX4_keyByTried yX4_keyByTried ∈ GW := mG39 (List.mem_append_left _ (List.mem_of_getElem? (i := 23) rfl))
theorem gw960 : Cond.code yX4_keyByTried cX4_keyByTried 1 none ∈ GW := mG40 (List.mem_append_left _ (List.mem_of_getElem? (i := 0) rfl))
theorem gw961 : Cond.fieldLink RX4 50 "WirelessCell$Link" "taken" "J" ∈ GW := mG40 (List.mem_append_left _ (List.mem_of_getElem? (i := 1) rfl))
theorem gw962 : Cond.methodLink RX11 480 yX11_takeHandAtStation ∈ GW := mG40 (List.mem_append_left _ (List.mem_of_getElem? (i := 2) rfl))
theorem gw963 : Cond.instanceMethod yX11_takeHandAtStation ∈ GW := mG40 (List.mem_append_left _ (List.mem_of_getElem? (i := 3) rfl))
theorem gw964 : Cond.selects RX11 yX11_takeHandAtStation yX11_takeHandAtStation ∈ GW := mG40 (List.mem_append_left _ (List.mem_of_getElem? (i := 4) rfl))
theorem gw965 : Cond.code yX11_takeHandAtStation cX11_takeHandAtStation 5 none ∈ GW := mG40 (List.mem_append_left _ (List.mem_of_getElem? (i := 5) rfl))
theorem gw966 : Cond.fieldLink RX11 514 "WirelessCell$Link" "triedNonce" "[I" ∈ GW := mG40 (List.mem_append_left _ (List.mem_of_getElem? (i := 6) rfl))
theorem gw967 : Cond.methodLink RX11 235 yX11_takeManagement ∈ GW := mG40 (List.mem_append_left _ (List.mem_of_getElem? (i := 7) rfl))
theorem gw968 : Cond.instanceMethod yX11_takeManagement ∈ GW := mG40 (List.mem_append_left _ (List.mem_of_getElem? (i := 8) rfl))
theorem gw969 : Cond.selects RX11 yX11_takeManagement yX11_takeManagement ∈ GW := mG40 (List.mem_append_left _ (List.mem_of_getElem? (i := 9) rfl))
theorem gw970 : Cond.code yX11_takeManagement cX11_takeManagement 4 none ∈ GW := mG40 (List.mem_append_left _ (List.mem_of_getElem? (i := 10) rfl))
theorem gw971 : Cond.methodLink RX11 447 yX11_actAtAp ∈ GW := mG40 (List.mem_append_left _ (List.mem_of_getElem? (i := 11) rfl))
theorem gw972 : Cond.instanceMethod yX11_actAtAp ∈ GW := mG40 (List.mem_append_left _ (List.mem_of_getElem? (i := 12) rfl))
theorem gw973 : Cond.selects RX11 yX11_actAtAp yX11_actAtAp ∈ GW := mG40 (List.mem_append_left _ (List.mem_of_getElem? (i := 13) rfl))
theorem gw974 : Cond.code yX11_actAtAp cX11_actAtAp 4 none ∈ GW := mG40 (List.mem_append_left _ (List.mem_of_getElem? (i := 14) rfl))
theorem gw975 : Cond.methodLink RX11 454 yX11_hasBody ∈ GW := mG40 (List.mem_append_left _ (List.mem_of_getElem? (i := 15) rfl))
theorem gw976 : Cond.instanceMethod yX11_hasBody ∈ GW := mG40 (List.mem_append_left _ (List.mem_of_getElem? (i := 16) rfl))
theorem gw977 : Cond.selects RX11 yX11_hasBody yX11_hasBody ∈ GW := mG40 (List.mem_append_left _ (List.mem_of_getElem? (i := 17) rfl))
theorem gw978 : Cond.code yX11_hasBody cX11_hasBody 5 (some .boolean) ∈ GW := mG40 (List.mem_append_left _ (List.mem_of_getElem? (i := 18) rfl))
theorem gw979 : Cond.methodLink RX11 451 yX11_actAtStation ∈ GW := mG40 (List.mem_append_left _ (List.mem_of_getElem? (i := 19) rfl))
theorem gw980 : Cond.instanceMethod yX11_actAtStation ∈ GW := mG40 (List.mem_append_left _ (List.mem_of_getElem? (i := 20) rfl))
theorem gw981 : Cond.selects RX11 yX11_actAtStation yX11_actAtStation ∈ GW := mG40 (List.mem_append_left _ (List.mem_of_getElem? (i := 21) rfl))
theorem gw982 : Cond.code yX11_actAtStation cX11_actAtStation 4 none ∈ GW := mG40 (List.mem_append_left _ (List.mem_of_getElem? (i := 22) rfl))
theorem gw983 : Cond.methodLink RX11 238 yX11_failWaiters ∈ GW := mG40 (List.mem_append_left _ (List.mem_of_getElem? (i := 23) rfl))
theorem gw984 : Cond.instanceMethod yX11_failWaiters ∈ GW := mG41 (List.mem_append_left _ (List.mem_of_getElem? (i := 0) rfl))
theorem gw985 : Cond.selects RX11 yX11_failWaiters yX11_failWaiters ∈ GW := mG41 (List.mem_append_left _ (List.mem_of_getElem? (i := 1) rfl))
theorem gw986 : Cond.code yX11_failWaiters cX11_failWaiters 3 none ∈ GW := mG41 (List.mem_append_left _ (List.mem_of_getElem? (i := 2) rfl))
theorem gw987 : Cond.methodLink RX11 444 yX11_fail ∈ GW := mG41 (List.mem_append_left _ (List.mem_of_getElem? (i := 3) rfl))
theorem gw988 : Cond.instanceMethod yX11_fail ∈ GW := mG41 (List.mem_append_left _ (List.mem_of_getElem? (i := 4) rfl))
theorem gw989 : Cond.selects RX11 yX11_fail yX11_fail ∈ GW := mG41 (List.mem_append_left _ (List.mem_of_getElem? (i := 5) rfl))
theorem gw990 : Cond.code yX11_fail cX11_fail 2 none ∈ GW := mG41 (List.mem_append_left _ (List.mem_of_getElem? (i := 6) rfl))
theorem gw991 : Cond.fieldLink RX11 298 "WirelessCell" "failures" "I" ∈ GW := mG41 (List.mem_append_left _ (List.mem_of_getElem? (i := 7) rfl))
theorem gw992 : Cond.methodLink RX11 241 yX11_countDown ∈ GW := mG41 (List.mem_append_left _ (List.mem_of_getElem? (i := 8) rfl))
theorem gw993 : Cond.instanceMethod yX11_countDown ∈ GW := mG41 (List.mem_append_left _ (List.mem_of_getElem? (i := 9) rfl))
theorem gw994 : Cond.selects RX11 yX11_countDown yX11_countDown ∈ GW := mG41 (List.mem_append_left _ (List.mem_of_getElem? (i := 10) rfl))
theorem gw995 : Cond.code yX11_countDown cX11_countDown 2 none ∈ GW := mG41 (List.mem_append_left _ (List.mem_of_getElem? (i := 11) rfl))
theorem gw996 : Cond.methodLink RL 91 yX12_go ∈ GW := mG41 (List.mem_append_left _ (List.mem_of_getElem? (i := 12) rfl))
theorem gw997 : Cond.instanceMethod yX12_go ∈ GW := mG41 (List.mem_append_left _ (List.mem_of_getElem? (i := 13) rfl))
theorem gw998 : Cond.selects RX12 yX12_go yX12_go ∈ GW := mG41 (List.mem_append_left _ (List.mem_of_getElem? (i := 14) rfl))
theorem gw999 : Cond.code yX12_go cX12_go 4 (some .int) ∈ GW := mG41 (List.mem_append_left _ (List.mem_of_getElem? (i := 15) rfl))
theorem gw1000 : Cond.constantLong RX12 610 (3000) ∈ GW := mG41 (List.mem_append_left _ (List.mem_of_getElem? (i := 16) rfl))
theorem gw1001 : Cond.methodLink RX12 612 yX12_goSlot ∈ GW := mG41 (List.mem_append_left _ (List.mem_of_getElem? (i := 17) rfl))
theorem gw1002 : Cond.instanceMethod yX12_goSlot ∈ GW := mG41 (List.mem_append_left _ (List.mem_of_getElem? (i := 18) rfl))
theorem gw1003 : Cond.selects RX12 yX12_goSlot yX12_goSlot ∈ GW := mG41 (List.mem_append_left _ (List.mem_of_getElem? (i := 19) rfl))
theorem gw1004 : Cond.code yX12_goSlot cX12_goSlot 4 none ∈ GW := mG41 (List.mem_append_left _ (List.mem_of_getElem? (i := 20) rfl))
theorem gw1005 : Cond.fieldLink RX12 451 "WirelessCellModel" "live" "I" ∈ GW := mG41 (List.mem_append_left _ (List.mem_of_getElem? (i := 21) rfl))
theorem gw1006 : Cond.fieldLink RX12 513 "WirelessCellModel" "quietMany" "I" ∈ GW := mG41 (List.mem_append_left _ (List.mem_of_getElem? (i := 22) rfl))
theorem gw1007 : Cond.methodLink RX12 500 yX12_begin ∈ GW := mG41 (List.mem_append_left _ (List.mem_of_getElem? (i := 23) rfl))
theorem gw1008 : Cond.instanceMethod yX12_begin ∈ GW := mG42 (List.mem_append_left _ (List.mem_of_getElem? (i := 0) rfl))
theorem gw1009 : Cond.selects RX12 yX12_begin yX12_begin ∈ GW := mG42 (List.mem_append_left _ (List.mem_of_getElem? (i := 1) rfl))
theorem gw1010 : Cond.code yX12_begin cX12_begin 4 none ∈ GW := mG42 (List.mem_append_left _ (List.mem_of_getElem? (i := 2) rfl))
theorem gw1011 : Cond.methodLink RX12 470 yX12_acknowledge ∈ GW := mG42 (List.mem_append_left _ (List.mem_of_getElem? (i := 3) rfl))
theorem gw1012 : Cond.instanceMethod yX12_acknowledge ∈ GW := mG42 (List.mem_append_left _ (List.mem_of_getElem? (i := 4) rfl))
theorem gw1013 : Cond.selects RX12 yX12_acknowledge yX12_acknowledge ∈ GW := mG42 (List.mem_append_left _ (List.mem_of_getElem? (i := 5) rfl))
theorem gw1014 : Cond.code yX12_acknowledge cX12_acknowledge 3 none ∈ GW := mG42 (List.mem_append_left _ (List.mem_of_getElem? (i := 6) rfl))
theorem gw1015 : Cond.methodLink RX12 434 yX12_putCheck ∈ GW := mG42 (List.mem_append_left _ (List.mem_of_getElem? (i := 7) rfl))
theorem gw1016 : Cond.instanceMethod yX12_putCheck ∈ GW := mG42 (List.mem_append_left _ (List.mem_of_getElem? (i := 8) rfl))
theorem gw1017 : Cond.selects RX12 yX12_putCheck yX12_putCheck ∈ GW := mG42 (List.mem_append_left _ (List.mem_of_getElem? (i := 9) rfl))
theorem gw1018 : Cond.code yX12_putCheck cX12_putCheck 6 none ∈ GW := mG42 (List.mem_append_left _ (List.mem_of_getElem? (i := 10) rfl))
theorem gw1019 : Cond.methodLink RX12 460 yX12_goesOut ∈ GW := mG42 (List.mem_append_left _ (List.mem_of_getElem? (i := 11) rfl))
theorem gw1020 : Cond.instanceMethod yX12_goesOut ∈ GW := mG42 (List.mem_append_left _ (List.mem_of_getElem? (i := 12) rfl))
theorem gw1021 : Cond.selects RX12 yX12_goesOut yX12_goesOut ∈ GW := mG42 (List.mem_append_left _ (List.mem_of_getElem? (i := 13) rfl))
theorem gw1022 : Cond.code yX12_goesOut cX12_goesOut 9 none ∈ GW := mG42 (List.mem_append_left _ (List.mem_of_getElem? (i := 14) rfl))
theorem gw1023 : Cond.methodLink RX12 473 yX12_sendsAtHand ∈ GW := mG42 (List.mem_append_left _ (List.mem_of_getElem? (i := 15) rfl))
theorem gw1024 : Cond.instanceMethod yX12_sendsAtHand ∈ GW := mG42 (List.mem_append_left _ (List.mem_of_getElem? (i := 16) rfl))
theorem gw1025 : Cond.selects RX12 yX12_sendsAtHand yX12_sendsAtHand ∈ GW := mG42 (List.mem_append_left _ (List.mem_of_getElem? (i := 17) rfl))
theorem gw1026 : Cond.code yX12_sendsAtHand cX12_sendsAtHand 2 none ∈ GW := mG42 (List.mem_append_left _ (List.mem_of_getElem? (i := 18) rfl))
theorem gw1027 : Cond.methodLink RX12 464 yX12_make ∈ GW := mG42 (List.mem_append_left _ (List.mem_of_getElem? (i := 19) rfl))
theorem gw1028 : Cond.instanceMethod yX12_make ∈ GW := mG42 (List.mem_append_left _ (List.mem_of_getElem? (i := 20) rfl))
theorem gw1029 : Cond.selects RX12 yX12_make yX12_make ∈ GW := mG42 (List.mem_append_left _ (List.mem_of_getElem? (i := 21) rfl))
theorem gw1030 : Cond.code yX12_make cX12_make 12 (some .boolean) ∈ GW := mG42 (List.mem_append_left _ (List.mem_of_getElem? (i := 22) rfl))
theorem gw1031 : Cond.methodLink RX12 418 yX12_isSealed ∈ GW := mG42 (List.mem_append_left _ (List.mem_of_getElem? (i := 23) rfl))
theorem gw1032 : Cond.instanceMethod yX12_isSealed ∈ GW := mG43 (List.mem_append_left _ (List.mem_of_getElem? (i := 0) rfl))
theorem gw1033 : Cond.selects RX12 yX12_isSealed yX12_isSealed ∈ GW := mG43 (List.mem_append_left _ (List.mem_of_getElem? (i := 1) rfl))
theorem gw1034 : Cond.code yX12_isSealed cX12_isSealed 3 (some .boolean) ∈ GW := mG43 (List.mem_append_left _ (List.mem_of_getElem? (i := 2) rfl))
theorem gw1035 : Cond.methodLink RX12 421 yX12_pairOf ∈ GW := mG43 (List.mem_append_left _ (List.mem_of_getElem? (i := 3) rfl))
theorem gw1036 : Cond.instanceMethod yX12_pairOf ∈ GW := mG43 (List.mem_append_left _ (List.mem_of_getElem? (i := 4) rfl))
theorem gw1037 : Cond.selects RX12 yX12_pairOf yX12_pairOf ∈ GW := mG43 (List.mem_append_left _ (List.mem_of_getElem? (i := 5) rfl))
theorem gw1038 : Cond.code yX12_pairOf cX12_pairOf 2 (some .int) ∈ GW := mG43 (List.mem_append_left _ (List.mem_of_getElem? (i := 6) rfl))
theorem gw1039 : Cond.methodLink RX12 424 yX12_partsOf ∈ GW := mG43 (List.mem_append_left _ (List.mem_of_getElem? (i := 7) rfl))
theorem gw1040 : Cond.instanceMethod yX12_partsOf ∈ GW := mG43 (List.mem_append_left _ (List.mem_of_getElem? (i := 8) rfl))
theorem gw1041 : Cond.selects RX12 yX12_partsOf yX12_partsOf ∈ GW := mG43 (List.mem_append_left _ (List.mem_of_getElem? (i := 9) rfl))
theorem gw1042 : Cond.code yX12_partsOf cX12_partsOf 3 (some .int) ∈ GW := mG43 (List.mem_append_left _ (List.mem_of_getElem? (i := 10) rfl))
theorem gw1043 : Cond.methodLink RX12 427 yX12_putAddress ∈ GW := mG43 (List.mem_append_left _ (List.mem_of_getElem? (i := 11) rfl))
theorem gw1044 : Cond.static yX12_putAddress ∈ GW := mG43 (List.mem_append_left _ (List.mem_of_getElem? (i := 12) rfl))
theorem gw1045 : Cond.code yX12_putAddress cX12_putAddress 4 none ∈ GW := mG43 (List.mem_append_left _ (List.mem_of_getElem? (i := 13) rfl))
theorem gw1046 : Cond.methodLink RX12 430 yX12_seal ∈ GW := mG43 (List.mem_append_left _ (List.mem_of_getElem? (i := 14) rfl))
theorem gw1047 : Cond.instanceMethod yX12_seal ∈ GW := mG43 (List.mem_append_left _ (List.mem_of_getElem? (i := 15) rfl))
theorem gw1048 : Cond.selects RX12 yX12_seal yX12_seal ∈ GW := mG43 (List.mem_append_left _ (List.mem_of_getElem? (i := 16) rfl))
theorem gw1049 : Cond.code yX12_seal cX12_seal 9 none ∈ GW := mG43 (List.mem_append_left _ (List.mem_of_getElem? (i := 17) rfl))
theorem gw1050 : Cond.methodLink RX12 437 yX12_expand ∈ GW := mG43 (List.mem_append_left _ (List.mem_of_getElem? (i := 18) rfl))
theorem gw1051 : Cond.instanceMethod yX12_expand ∈ GW := mG43 (List.mem_append_left _ (List.mem_of_getElem? (i := 19) rfl))
theorem gw1052 : Cond.selects RX12 yX12_expand yX12_expand ∈ GW := mG43 (List.mem_append_left _ (List.mem_of_getElem? (i := 20) rfl))
theorem gw1053 : Cond.code yX12_expand cX12_expand 8 none ∈ GW := mG43 (List.mem_append_left _ (List.mem_of_getElem? (i := 21) rfl))
theorem gw1054 : Cond.methodLink RX12 441 yX12_nonceOf ∈ GW := mG43 (List.mem_append_left _ (List.mem_of_getElem? (i := 22) rfl))
theorem gw1055 : Cond.instanceMethod yX12_nonceOf ∈ GW := mG43 (List.mem_append_left _ (List.mem_of_getElem? (i := 23) rfl))
theorem gw1056 : Cond.selects RX12 yX12_nonceOf yX12_nonceOf ∈ GW := mG44 (List.mem_append_left _ (List.mem_of_getElem? (i := 0) rfl))
theorem gw1057 : Cond.code yX12_nonceOf cX12_nonceOf 6 none ∈ GW := mG44 (List.mem_append_left _ (List.mem_of_getElem? (i := 1) rfl))
theorem gw1058 : Cond.methodLink RX12 445 yX12_findTag ∈ GW := mG44 (List.mem_append_left _ (List.mem_of_getElem? (i := 2) rfl))
theorem gw1059 : Cond.instanceMethod yX12_findTag ∈ GW := mG44 (List.mem_append_left _ (List.mem_of_getElem? (i := 3) rfl))
theorem gw1060 : Cond.selects RX12 yX12_findTag yX12_findTag ∈ GW := mG44 (List.mem_append_left _ (List.mem_of_getElem? (i := 4) rfl))
theorem gw1061 : Cond.code yX12_findTag cX12_findTag 8 none ∈ GW := mG44 (List.mem_append_left _ (List.mem_of_getElem? (i := 5) rfl))
theorem gw1062 : Cond.methodLink RX12 335 yX12_chainStep ∈ GW := mG44 (List.mem_append_left _ (List.mem_of_getElem? (i := 6) rfl))
theorem gw1063 : Cond.instanceMethod yX12_chainStep ∈ GW := mG44 (List.mem_append_left _ (List.mem_of_getElem? (i := 7) rfl))
theorem gw1064 : Cond.selects RX12 yX12_chainStep yX12_chainStep ∈ GW := mG44 (List.mem_append_left _ (List.mem_of_getElem? (i := 8) rfl))
theorem gw1065 : Cond.code yX12_chainStep cX12_chainStep 2 none ∈ GW := mG44 (List.mem_append_left _ (List.mem_of_getElem? (i := 9) rfl))
theorem gw1066 : Cond.methodLink RX12 332 yX12_encipher ∈ GW := mG44 (List.mem_append_left _ (List.mem_of_getElem? (i := 10) rfl))
theorem gw1067 : Cond.instanceMethod yX12_encipher ∈ GW := mG44 (List.mem_append_left _ (List.mem_of_getElem? (i := 11) rfl))
theorem gw1068 : Cond.selects RX12 yX12_encipher yX12_encipher ∈ GW := mG44 (List.mem_append_left _ (List.mem_of_getElem? (i := 12) rfl))
theorem gw1069 : Cond.code yX12_encipher cX12_encipher 7 none ∈ GW := mG44 (List.mem_append_left _ (List.mem_of_getElem? (i := 13) rfl))
theorem gw1070 : Cond.methodLink RX12 338 yX12_besideAt ∈ GW := mG44 (List.mem_append_left _ (List.mem_of_getElem? (i := 14) rfl))
theorem gw1071 : Cond.static yX12_besideAt ∈ GW := mG44 (List.mem_append_left _ (List.mem_of_getElem? (i := 15) rfl))
theorem gw1072 : Cond.code yX12_besideAt cX12_besideAt 3 (some .int) ∈ GW := mG44 (List.mem_append_left _ (List.mem_of_getElem? (i := 16) rfl))
theorem gw1073 : Cond.methodLink RX12 342 yX12_counter ∈ GW := mG44 (List.mem_append_left _ (List.mem_of_getElem? (i := 17) rfl))
theorem gw1074 : Cond.instanceMethod yX12_counter ∈ GW := mG44 (List.mem_append_left _ (List.mem_of_getElem? (i := 18) rfl))
theorem gw1075 : Cond.selects RX12 yX12_counter yX12_counter ∈ GW := mG44 (List.mem_append_left _ (List.mem_of_getElem? (i := 19) rfl))
theorem gw1076 : Cond.code yX12_counter cX12_counter 3 none ∈ GW := mG44 (List.mem_append_left _ (List.mem_of_getElem? (i := 20) rfl))
theorem gw1077 : Cond.methodLink RX12 448 yX12_cover ∈ GW := mG44 (List.mem_append_left _ (List.mem_of_getElem? (i := 21) rfl))
theorem gw1078 : Cond.instanceMethod yX12_cover ∈ GW := mG44 (List.mem_append_left _ (List.mem_of_getElem? (i := 22) rfl))
theorem gw1079 : Cond.selects RX12 yX12_cover yX12_cover ∈ GW := mG44 (List.mem_append_left _ (List.mem_of_getElem? (i := 23) rfl))
theorem gw1080 : Cond.code yX12_cover cX12_cover 7 none ∈ GW := mG45 (List.mem_append_left _ (List.mem_of_getElem? (i := 0) rfl))
theorem gw1081 : Cond.methodLink RX12 467 yX12_leaves ∈ GW := mG45 (List.mem_append_left _ (List.mem_of_getElem? (i := 1) rfl))
theorem gw1082 : Cond.instanceMethod yX12_leaves ∈ GW := mG45 (List.mem_append_left _ (List.mem_of_getElem? (i := 2) rfl))
theorem gw1083 : Cond.selects RX12 yX12_leaves yX12_leaves ∈ GW := mG45 (List.mem_append_left _ (List.mem_of_getElem? (i := 3) rfl))
theorem gw1084 : Cond.code yX12_leaves cX12_leaves 5 none ∈ GW := mG45 (List.mem_append_left _ (List.mem_of_getElem? (i := 4) rfl))
theorem gw1085 : Cond.methodLink RX12 503 yX12_isNoisy ∈ GW := mG45 (List.mem_append_left _ (List.mem_of_getElem? (i := 5) rfl))
theorem gw1086 : Cond.instanceMethod yX12_isNoisy ∈ GW := mG45 (List.mem_append_left _ (List.mem_of_getElem? (i := 6) rfl))
theorem gw1087 : Cond.selects RX12 yX12_isNoisy yX12_isNoisy ∈ GW := mG45 (List.mem_append_left _ (List.mem_of_getElem? (i := 7) rfl))
theorem gw1088 : Cond.code yX12_isNoisy cX12_isNoisy 3 (some .boolean) ∈ GW := mG45 (List.mem_append_left _ (List.mem_of_getElem? (i := 8) rfl))
theorem gw1089 : Cond.methodLink RX12 507 yX12_endAll ∈ GW := mG45 (List.mem_append_left _ (List.mem_of_getElem? (i := 9) rfl))
theorem gw1090 : Cond.instanceMethod yX12_endAll ∈ GW := mG45 (List.mem_append_left _ (List.mem_of_getElem? (i := 10) rfl))
theorem gw1091 : Cond.selects RX12 yX12_endAll yX12_endAll ∈ GW := mG45 (List.mem_append_left _ (List.mem_of_getElem? (i := 11) rfl))
theorem gw1092 : Cond.code yX12_endAll cX12_endAll 3 none ∈ GW := mG45 (List.mem_append_left _ (List.mem_of_getElem? (i := 12) rfl))
theorem gw1093 : Cond.methodLink RX12 491 yX12_over ∈ GW := mG45 (List.mem_append_left _ (List.mem_of_getElem? (i := 13) rfl))
theorem gw1094 : Cond.instanceMethod yX12_over ∈ GW := mG45 (List.mem_append_left _ (List.mem_of_getElem? (i := 14) rfl))
theorem gw1095 : Cond.selects RX12 yX12_over yX12_over ∈ GW := mG45 (List.mem_append_left _ (List.mem_of_getElem? (i := 15) rfl))
theorem gw1096 : Cond.code yX12_over cX12_over 6 none ∈ GW := mG45 (List.mem_append_left _ (List.mem_of_getElem? (i := 16) rfl))
theorem gw1097 : Cond.fieldLink RX12 482 "WirelessCellModel" "seenLen" "I" ∈ GW := mG45 (List.mem_append_left _ (List.mem_of_getElem? (i := 17) rfl))
theorem gw1098 : Cond.fieldLink RX12 485 "WirelessCellModel" "unclean" "I" ∈ GW := mG45 (List.mem_append_left _ (List.mem_of_getElem? (i := 18) rfl))
theorem gw1099 : Cond.methodLink RX12 488 yX12_look ∈ GW := mG45 (List.mem_append_left _ (List.mem_of_getElem? (i := 19) rfl))
theorem gw1100 : Cond.instanceMethod yX12_look ∈ GW := mG45 (List.mem_append_left _ (List.mem_of_getElem? (i := 20) rfl))
theorem gw1101 : Cond.selects RX12 yX12_look yX12_look ∈ GW := mG45 (List.mem_append_left _ (List.mem_of_getElem? (i := 21) rfl))
theorem gw1102 : Cond.code yX12_look cX12_look 7 none ∈ GW := mG45 (List.mem_append_left _ (List.mem_of_getElem? (i := 22) rfl))
theorem gw1103 : Cond.methodLink RX12 516 yX12_isWhole ∈ GW := mG45 (List.mem_append_left _ (List.mem_of_getElem? (i := 23) rfl))
theorem gw1104 : Cond.instanceMethod yX12_isWhole ∈ GW := mG46 (List.mem_append_left _ (List.mem_of_getElem? (i := 0) rfl))
theorem gw1105 : Cond.selects RX12 yX12_isWhole yX12_isWhole ∈ GW := mG46 (List.mem_append_left _ (List.mem_of_getElem? (i := 1) rfl))
theorem gw1106 : Cond.code yX12_isWhole cX12_isWhole 4 (some .boolean) ∈ GW := mG46 (List.mem_append_left _ (List.mem_of_getElem? (i := 2) rfl))
theorem gw1107 : Cond.methodLink RX12 519 yX12_isTold ∈ GW := mG46 (List.mem_append_left _ (List.mem_of_getElem? (i := 3) rfl))
theorem gw1108 : Cond.instanceMethod yX12_isTold ∈ GW := mG46 (List.mem_append_left _ (List.mem_of_getElem? (i := 4) rfl))
theorem gw1109 : Cond.selects RX12 yX12_isTold yX12_isTold ∈ GW := mG46 (List.mem_append_left _ (List.mem_of_getElem? (i := 5) rfl))
theorem gw1110 : Cond.code yX12_isTold cX12_isTold 3 (some .boolean) ∈ GW := mG46 (List.mem_append_left _ (List.mem_of_getElem? (i := 6) rfl))
theorem gw1111 : Cond.methodLink RX12 522 yX12_nodeAt ∈ GW := mG46 (List.mem_append_left _ (List.mem_of_getElem? (i := 7) rfl))
theorem gw1112 : Cond.instanceMethod yX12_nodeAt ∈ GW := mG46 (List.mem_append_left _ (List.mem_of_getElem? (i := 8) rfl))
theorem gw1113 : Cond.selects RX12 yX12_nodeAt yX12_nodeAt ∈ GW := mG46 (List.mem_append_left _ (List.mem_of_getElem? (i := 9) rfl))
theorem gw1114 : Cond.code yX12_nodeAt cX12_nodeAt 3 (some .int) ∈ GW := mG46 (List.mem_append_left _ (List.mem_of_getElem? (i := 10) rfl))
theorem gw1115 : Cond.methodLink RX12 525 yX12_acknowledged ∈ GW := mG46 (List.mem_append_left _ (List.mem_of_getElem? (i := 11) rfl))
theorem gw1116 : Cond.instanceMethod yX12_acknowledged ∈ GW := mG46 (List.mem_append_left _ (List.mem_of_getElem? (i := 12) rfl))
theorem gw1117 : Cond.selects RX12 yX12_acknowledged yX12_acknowledged ∈ GW := mG46 (List.mem_append_left _ (List.mem_of_getElem? (i := 13) rfl))
theorem gw1118 : Cond.code yX12_acknowledged cX12_acknowledged 2 none ∈ GW := mG46 (List.mem_append_left _ (List.mem_of_getElem? (i := 14) rfl))
theorem gw1119 : Cond.methodLink RX12 528 yX12_actsAp ∈ GW := mG46 (List.mem_append_left _ (List.mem_of_getElem? (i := 15) rfl))
theorem gw1120 : Cond.instanceMethod yX12_actsAp ∈ GW := mG46 (List.mem_append_left _ (List.mem_of_getElem? (i := 16) rfl))
theorem gw1121 : Cond.selects RX12 yX12_actsAp yX12_actsAp ∈ GW := mG46 (List.mem_append_left _ (List.mem_of_getElem? (i := 17) rfl))
theorem gw1122 : Cond.code yX12_actsAp cX12_actsAp 5 none ∈ GW := mG46 (List.mem_append_left _ (List.mem_of_getElem? (i := 18) rfl))
theorem gw1123 : Cond.methodLink RX12 544 yX12_isBody ∈ GW := mG46 (List.mem_append_left _ (List.mem_of_getElem? (i := 19) rfl))
theorem gw1124 : Cond.instanceMethod yX12_isBody ∈ GW := mG46 (List.mem_append_left _ (List.mem_of_getElem? (i := 20) rfl))
theorem gw1125 : Cond.selects RX12 yX12_isBody yX12_isBody ∈ GW := mG46 (List.mem_append_left _ (List.mem_of_getElem? (i := 21) rfl))
theorem gw1126 : Cond.code yX12_isBody cX12_isBody 6 (some .boolean) ∈ GW := mG46 (List.mem_append_left _ (List.mem_of_getElem? (i := 22) rfl))
theorem gw1127 : Cond.methodLink RX12 551 yX12_asks ∈ GW := mG46 (List.mem_append_left _ (List.mem_of_getElem? (i := 23) rfl))
theorem gw1128 : Cond.instanceMethod yX12_asks ∈ GW := mG47 (List.mem_append_left _ (List.mem_of_getElem? (i := 0) rfl))
theorem gw1129 : Cond.selects RX12 yX12_asks yX12_asks ∈ GW := mG47 (List.mem_append_left _ (List.mem_of_getElem? (i := 1) rfl))
theorem gw1130 : Cond.code yX12_asks cX12_asks 2 none ∈ GW := mG47 (List.mem_append_left _ (List.mem_of_getElem? (i := 2) rfl))
theorem gw1131 : Cond.methodLink RX12 564 yX12_sendsHand ∈ GW := mG47 (List.mem_append_left _ (List.mem_of_getElem? (i := 3) rfl))
theorem gw1132 : Cond.instanceMethod yX12_sendsHand ∈ GW := mG47 (List.mem_append_left _ (List.mem_of_getElem? (i := 4) rfl))
theorem gw1133 : Cond.selects RX12 yX12_sendsHand yX12_sendsHand ∈ GW := mG47 (List.mem_append_left _ (List.mem_of_getElem? (i := 5) rfl))
theorem gw1134 : Cond.code yX12_sendsHand cX12_sendsHand 7 none ∈ GW := mG47 (List.mem_append_left _ (List.mem_of_getElem? (i := 6) rfl))
theorem gw1135 : Cond.methodLink RX12 394 yX12_macOf ∈ GW := mG47 (List.mem_append_left _ (List.mem_of_getElem? (i := 7) rfl))
theorem gw1136 : Cond.instanceMethod yX12_macOf ∈ GW := mG47 (List.mem_append_left _ (List.mem_of_getElem? (i := 8) rfl))
theorem gw1137 : Cond.selects RX12 yX12_macOf yX12_macOf ∈ GW := mG47 (List.mem_append_left _ (List.mem_of_getElem? (i := 9) rfl))
theorem gw1138 : Cond.code yX12_macOf cX12_macOf 7 none ∈ GW := mG47 (List.mem_append_left _ (List.mem_of_getElem? (i := 10) rfl))
theorem gw1139 : Cond.methodLink RX12 378 yX12_macBegin ∈ GW := mG47 (List.mem_append_left _ (List.mem_of_getElem? (i := 11) rfl))
theorem gw1140 : Cond.instanceMethod yX12_macBegin ∈ GW := mG47 (List.mem_append_left _ (List.mem_of_getElem? (i := 12) rfl))
theorem gw1141 : Cond.selects RX12 yX12_macBegin yX12_macBegin ∈ GW := mG47 (List.mem_append_left _ (List.mem_of_getElem? (i := 13) rfl))
theorem gw1142 : Cond.code yX12_macBegin cX12_macBegin 5 none ∈ GW := mG47 (List.mem_append_left _ (List.mem_of_getElem? (i := 14) rfl))
theorem gw1143 : Cond.methodLink RX12 316 yX12_hashBegin ∈ GW := mG47 (List.mem_append_left _ (List.mem_of_getElem? (i := 15) rfl))
theorem gw1144 : Cond.instanceMethod yX12_hashBegin ∈ GW := mG47 (List.mem_append_left _ (List.mem_of_getElem? (i := 16) rfl))
theorem gw1145 : Cond.selects RX12 yX12_hashBegin yX12_hashBegin ∈ GW := mG47 (List.mem_append_left _ (List.mem_of_getElem? (i := 17) rfl))
theorem gw1146 : Cond.code yX12_hashBegin cX12_hashBegin 1 none ∈ GW := mG47 (List.mem_append_left _ (List.mem_of_getElem? (i := 18) rfl))
theorem gw1147 : Cond.constant RX12 290 (1732584193) ∈ GW := mG47 (List.mem_append_left _ (List.mem_of_getElem? (i := 19) rfl))
theorem gw1148 : Cond.constant RX12 291 (-271733879) ∈ GW := mG47 (List.mem_append_left _ (List.mem_of_getElem? (i := 20) rfl))
theorem gw1149 : Cond.constant RX12 292 (-1732584194) ∈ GW := mG47 (List.mem_append_left _ (List.mem_of_getElem? (i := 21) rfl))
theorem gw1150 : Cond.constant RX12 293 (271733878) ∈ GW := mG47 (List.mem_append_left _ (List.mem_of_getElem? (i := 22) rfl))
theorem gw1151 : Cond.constant RX12 294 (-1009589776) ∈ GW := mG47 (List.mem_append_left _ (List.mem_of_getElem? (i := 23) rfl))
theorem gw1152 : Cond.fieldLink RX12 295 "WirelessCellModel" "filled" "I" ∈ GW := mG48 (List.mem_append_left _ (List.mem_of_getElem? (i := 0) rfl))
theorem gw1153 : Cond.fieldLink RX12 298 "WirelessCellModel" "hashed" "J" ∈ GW := mG48 (List.mem_append_left _ (List.mem_of_getElem? (i := 1) rfl))
theorem gw1154 : Cond.methodLink RX12 312 yX12_hash ∈ GW := mG48 (List.mem_append_left _ (List.mem_of_getElem? (i := 2) rfl))
theorem gw1155 : Cond.instanceMethod yX12_hash ∈ GW := mG48 (List.mem_append_left _ (List.mem_of_getElem? (i := 3) rfl))
theorem gw1156 : Cond.selects RX12 yX12_hash yX12_hash ∈ GW := mG48 (List.mem_append_left _ (List.mem_of_getElem? (i := 4) rfl))
theorem gw1157 : Cond.code yX12_hash cX12_hash 11 none ∈ GW := mG48 (List.mem_append_left _ (List.mem_of_getElem? (i := 5) rfl))
theorem gw1158 : Cond.constant RX12 306 (1518500249) ∈ GW := mG48 (List.mem_append_left _ (List.mem_of_getElem? (i := 6) rfl))
theorem gw1159 : Cond.constant RX12 307 (1859775393) ∈ GW := mG48 (List.mem_append_left _ (List.mem_of_getElem? (i := 7) rfl))
theorem gw1160 : Cond.constant RX12 308 (-1894007588) ∈ GW := mG48 (List.mem_append_left _ (List.mem_of_getElem? (i := 8) rfl))
theorem gw1161 : Cond.constant RX12 309 (-899497514) ∈ GW := mG48 (List.mem_append_left _ (List.mem_of_getElem? (i := 9) rfl))
theorem gw1162 : Cond.methodLink RX12 302 yX12_left ∈ GW := mG48 (List.mem_append_left _ (List.mem_of_getElem? (i := 10) rfl))
theorem gw1163 : Cond.static yX12_left ∈ GW := mG48 (List.mem_append_left _ (List.mem_of_getElem? (i := 11) rfl))
theorem gw1164 : Cond.code yX12_left cX12_left 2 (some .int) ∈ GW := mG48 (List.mem_append_left _ (List.mem_of_getElem? (i := 12) rfl))
theorem gw1165 : Cond.methodLink RX12 391 yX12_macEnd ∈ GW := mG48 (List.mem_append_left _ (List.mem_of_getElem? (i := 13) rfl))
theorem gw1166 : Cond.instanceMethod yX12_macEnd ∈ GW := mG48 (List.mem_append_left _ (List.mem_of_getElem? (i := 14) rfl))
theorem gw1167 : Cond.selects RX12 yX12_macEnd yX12_macEnd ∈ GW := mG48 (List.mem_append_left _ (List.mem_of_getElem? (i := 15) rfl))
theorem gw1168 : Cond.code yX12_macEnd cX12_macEnd 2 none ∈ GW := mG48 (List.mem_append_left _ (List.mem_of_getElem? (i := 16) rfl))
theorem gw1169 : Cond.methodLink RX12 319 yX12_hashEnd ∈ GW := mG48 (List.mem_append_left _ (List.mem_of_getElem? (i := 17) rfl))
theorem gw1170 : Cond.instanceMethod yX12_hashEnd ∈ GW := mG48 (List.mem_append_left _ (List.mem_of_getElem? (i := 18) rfl))
theorem gw1171 : Cond.selects RX12 yX12_hashEnd yX12_hashEnd ∈ GW := mG48 (List.mem_append_left _ (List.mem_of_getElem? (i := 19) rfl))
theorem gw1172 : Cond.code yX12_hashEnd cX12_hashEnd 4 none ∈ GW := mG48 (List.mem_append_left _ (List.mem_of_getElem? (i := 20) rfl))
theorem gw1173 : Cond.methodLink RX12 554 yX12_opens ∈ GW := mG48 (List.mem_append_left _ (List.mem_of_getElem? (i := 21) rfl))
theorem gw1174 : Cond.instanceMethod yX12_opens ∈ GW := mG48 (List.mem_append_left _ (List.mem_of_getElem? (i := 22) rfl))
theorem gw1175 : Cond.selects RX12 yX12_opens yX12_opens ∈ GW := mG48 (List.mem_append_left _ (List.mem_of_getElem? (i := 23) rfl))
theorem gw1176 : Cond.code yX12_opens cX12_opens 9 none ∈ GW := mG49 (List.mem_append_left _ (List.mem_of_getElem? (i := 0) rfl))
theorem gw1177 : Cond.methodLink RX12 587 yX12_isRight ∈ GW := mG49 (List.mem_append_left _ (List.mem_of_getElem? (i := 1) rfl))
theorem gw1178 : Cond.instanceMethod yX12_isRight ∈ GW := mG49 (List.mem_append_left _ (List.mem_of_getElem? (i := 2) rfl))
theorem gw1179 : Cond.selects RX12 yX12_isRight yX12_isRight ∈ GW := mG49 (List.mem_append_left _ (List.mem_of_getElem? (i := 3) rfl))
theorem gw1180 : Cond.code yX12_isRight cX12_isRight 7 (some .boolean) ∈ GW := mG49 (List.mem_append_left _ (List.mem_of_getElem? (i := 4) rfl))
theorem gw1181 : Cond.methodLink RX12 590 yX12_whole ∈ GW := mG49 (List.mem_append_left _ (List.mem_of_getElem? (i := 5) rfl))
theorem gw1182 : Cond.instanceMethod yX12_whole ∈ GW := mG49 (List.mem_append_left _ (List.mem_of_getElem? (i := 6) rfl))
theorem gw1183 : Cond.selects RX12 yX12_whole yX12_whole ∈ GW := mG49 (List.mem_append_left _ (List.mem_of_getElem? (i := 7) rfl))
theorem gw1184 : Cond.code yX12_whole cX12_whole 9 none ∈ GW := mG49 (List.mem_append_left _ (List.mem_of_getElem? (i := 8) rfl))
theorem gw1185 : Cond.methodLink RX12 593 yX12_deliver ∈ GW := mG49 (List.mem_append_left _ (List.mem_of_getElem? (i := 9) rfl))
theorem gw1186 : Cond.instanceMethod yX12_deliver ∈ GW := mG49 (List.mem_append_left _ (List.mem_of_getElem? (i := 10) rfl))
theorem gw1187 : Cond.selects RX12 yX12_deliver yX12_deliver ∈ GW := mG49 (List.mem_append_left _ (List.mem_of_getElem? (i := 11) rfl))
theorem gw1188 : Cond.code yX12_deliver cX12_deliver 7 none ∈ GW := mG49 (List.mem_append_left _ (List.mem_of_getElem? (i := 12) rfl))
theorem gw1189 : Cond.methodLink RX12 561 yX12_handAp ∈ GW := mG49 (List.mem_append_left _ (List.mem_of_getElem? (i := 13) rfl))
theorem gw1190 : Cond.instanceMethod yX12_handAp ∈ GW := mG49 (List.mem_append_left _ (List.mem_of_getElem? (i := 14) rfl))
theorem gw1191 : Cond.selects RX12 yX12_handAp yX12_handAp ∈ GW := mG49 (List.mem_append_left _ (List.mem_of_getElem? (i := 15) rfl))
theorem gw1192 : Cond.code yX12_handAp cX12_handAp 4 none ∈ GW := mG49 (List.mem_append_left _ (List.mem_of_getElem? (i := 16) rfl))
theorem gw1193 : Cond.methodLink RX12 567 yX12_handOf ∈ GW := mG49 (List.mem_append_left _ (List.mem_of_getElem? (i := 17) rfl))
theorem gw1194 : Cond.instanceMethod yX12_handOf ∈ GW := mG49 (List.mem_append_left _ (List.mem_of_getElem? (i := 18) rfl))
theorem gw1195 : Cond.selects RX12 yX12_handOf yX12_handOf ∈ GW := mG49 (List.mem_append_left _ (List.mem_of_getElem? (i := 19) rfl))
theorem gw1196 : Cond.code yX12_handOf cX12_handOf 4 (some .int) ∈ GW := mG49 (List.mem_append_left _ (List.mem_of_getElem? (i := 20) rfl))
theorem gw1197 : Cond.methodLink RX12 570 yX12_findTried ∈ GW := mG49 (List.mem_append_left _ (List.mem_of_getElem? (i := 21) rfl))
theorem gw1198 : Cond.instanceMethod yX12_findTried ∈ GW := mG49 (List.mem_append_left _ (List.mem_of_getElem? (i := 22) rfl))
theorem gw1199 : Cond.selects RX12 yX12_findTried yX12_findTried ∈ GW := mG49 (List.mem_append_left _ (List.mem_of_getElem? (i := 23) rfl))
theorem gw1200 : Cond.code yX12_findTried cX12_findTried 8 none ∈ GW := mG50 (List.mem_append_left _ (List.mem_of_getElem? (i := 0) rfl))
theorem gw1201 : Cond.constantLong RX12 382 (5792026536125756261) ∈ GW := mG50 (List.mem_append_left _ (List.mem_of_getElem? (i := 1) rfl))
theorem gw1202 : Cond.constantLong RX12 384 (2336072402630703216) ∈ GW := mG50 (List.mem_append_left _ (List.mem_of_getElem? (i := 2) rfl))
theorem gw1203 : Cond.constantLong RX12 386 (107127010586478) ∈ GW := mG50 (List.mem_append_left _ (List.mem_of_getElem? (i := 3) rfl))
theorem gw1204 : Cond.methodLink RX12 374 yX12_hashLetters ∈ GW := mG50 (List.mem_append_left _ (List.mem_of_getElem? (i := 4) rfl))
theorem gw1205 : Cond.instanceMethod yX12_hashLetters ∈ GW := mG50 (List.mem_append_left _ (List.mem_of_getElem? (i := 5) rfl))
theorem gw1206 : Cond.selects RX12 yX12_hashLetters yX12_hashLetters ∈ GW := mG50 (List.mem_append_left _ (List.mem_of_getElem? (i := 6) rfl))
theorem gw1207 : Cond.code yX12_hashLetters cX12_hashLetters 5 none ∈ GW := mG50 (List.mem_append_left _ (List.mem_of_getElem? (i := 7) rfl))
theorem gw1208 : Cond.methodLink RX12 388 yX12_hashAddress ∈ GW := mG50 (List.mem_append_left _ (List.mem_of_getElem? (i := 8) rfl))
theorem gw1209 : Cond.instanceMethod yX12_hashAddress ∈ GW := mG50 (List.mem_append_left _ (List.mem_of_getElem? (i := 9) rfl))
theorem gw1210 : Cond.selects RX12 yX12_hashAddress yX12_hashAddress ∈ GW := mG50 (List.mem_append_left _ (List.mem_of_getElem? (i := 10) rfl))
theorem gw1211 : Cond.code yX12_hashAddress cX12_hashAddress 2 none ∈ GW := mG50 (List.mem_append_left _ (List.mem_of_getElem? (i := 11) rfl))
theorem gw1212 : Cond.constantLong RX12 372 (2199023255552) ∈ GW := mG50 (List.mem_append_left _ (List.mem_of_getElem? (i := 12) rfl))
theorem gw1213 : Cond.methodLink RX12 574 yX12_isMac ∈ GW := mG50 (List.mem_append_left _ (List.mem_of_getElem? (i := 13) rfl))
theorem gw1214 : Cond.instanceMethod yX12_isMac ∈ GW := mG50 (List.mem_append_left _ (List.mem_of_getElem? (i := 14) rfl))
theorem gw1215 : Cond.selects RX12 yX12_isMac yX12_isMac ∈ GW := mG50 (List.mem_append_left _ (List.mem_of_getElem? (i := 15) rfl))
theorem gw1216 : Cond.code yX12_isMac cX12_isMac 8 (some .boolean) ∈ GW := mG50 (List.mem_append_left _ (List.mem_of_getElem? (i := 16) rfl))
theorem gw1217 : Cond.methodLink RX12 578 yX12_keepTried ∈ GW := mG50 (List.mem_append_left _ (List.mem_of_getElem? (i := 17) rfl))
theorem gw1218 : Cond.instanceMethod yX12_keepTried ∈ GW := mG50 (List.mem_append_left _ (List.mem_of_getElem? (i := 18) rfl))
theorem gw1219 : Cond.selects RX12 yX12_keepTried yX12_keepTried ∈ GW := mG50 (List.mem_append_left _ (List.mem_of_getElem? (i := 19) rfl))
theorem gw1220 : Cond.code yX12_keepTried cX12_keepTried 3 none ∈ GW := mG50 (List.mem_append_left _ (List.mem_of_getElem? (i := 20) rfl))
theorem gw1221 : Cond.methodLink RX12 581 yX12_keyBy ∈ GW := mG50 (List.mem_append_left _ (List.mem_of_getElem? (i := 21) rfl))
theorem gw1222 : Cond.instanceMethod yX12_keyBy ∈ GW := mG50 (List.mem_append_left _ (List.mem_of_getElem? (i := 22) rfl))
theorem gw1223 : Cond.selects RX12 yX12_keyBy yX12_keyBy ∈ GW := mG50 (List.mem_append_left _ (List.mem_of_getElem? (i := 23) rfl))
theorem gw1224 : Cond.code yX12_keyBy cX12_keyBy 3 none ∈ GW := mG51 (List.mem_append_left _ (List.mem_of_getElem? (i := 0) rfl))
theorem gw1225 : Cond.methodLink RX12 531 yX12_actsStation ∈ GW := mG51 (List.mem_append_left _ (List.mem_of_getElem? (i := 1) rfl))
theorem gw1226 : Cond.instanceMethod yX12_actsStation ∈ GW := mG51 (List.mem_append_left _ (List.mem_of_getElem? (i := 2) rfl))
theorem gw1227 : Cond.selects RX12 yX12_actsStation yX12_actsStation ∈ GW := mG51 (List.mem_append_left _ (List.mem_of_getElem? (i := 3) rfl))
theorem gw1228 : Cond.code yX12_actsStation cX12_actsStation 3 none ∈ GW := mG51 (List.mem_append_left _ (List.mem_of_getElem? (i := 4) rfl))
theorem gw1229 : Cond.methodLink RX12 584 yX12_handStation ∈ GW := mG51 (List.mem_append_left _ (List.mem_of_getElem? (i := 5) rfl))
theorem gw1230 : Cond.instanceMethod yX12_handStation ∈ GW := mG51 (List.mem_append_left _ (List.mem_of_getElem? (i := 6) rfl))
theorem gw1231 : Cond.selects RX12 yX12_handStation yX12_handStation ∈ GW := mG51 (List.mem_append_left _ (List.mem_of_getElem? (i := 7) rfl))
theorem gw1232 : Cond.code yX12_handStation cX12_handStation 5 none ∈ GW := mG51 (List.mem_append_left _ (List.mem_of_getElem? (i := 8) rfl))
theorem gw1233 : Cond.methodLink RX12 494 yX12_moveLive ∈ GW := mG51 (List.mem_append_left _ (List.mem_of_getElem? (i := 9) rfl))
theorem gw1234 : Cond.instanceMethod yX12_moveLive ∈ GW := mG51 (List.mem_append_left _ (List.mem_of_getElem? (i := 10) rfl))
theorem gw1235 : Cond.selects RX12 yX12_moveLive yX12_moveLive ∈ GW := mG51 (List.mem_append_left _ (List.mem_of_getElem? (i := 11) rfl))
theorem gw1236 : Cond.code yX12_moveLive cX12_moveLive 4 none ∈ GW := mG51 (List.mem_append_left _ (List.mem_of_getElem? (i := 12) rfl))
theorem gw1237 : Cond.methodLink RX12 510 yX12_fail ∈ GW := mG51 (List.mem_append_left _ (List.mem_of_getElem? (i := 13) rfl))
theorem gw1238 : Cond.instanceMethod yX12_fail ∈ GW := mG51 (List.mem_append_left _ (List.mem_of_getElem? (i := 14) rfl))
theorem gw1239 : Cond.selects RX12 yX12_fail yX12_fail ∈ GW := mG51 (List.mem_append_left _ (List.mem_of_getElem? (i := 15) rfl))
theorem gw1240 : Cond.code yX12_fail cX12_fail 3 none ∈ GW := mG51 (List.mem_append_left _ (List.mem_of_getElem? (i := 16) rfl))
theorem gw1241 : Cond.fieldLink RX12 497 "WirelessCellModel" "failed" "I" ∈ GW := mG51 (List.mem_append_left _ (List.mem_of_getElem? (i := 17) rfl))
theorem gw1242 : Cond.methodLink RL 92 yX11_ended ∈ GW := mG51 (List.mem_append_left _ (List.mem_of_getElem? (i := 18) rfl))
theorem gw1243 : Cond.instanceMethod yX11_ended ∈ GW := mG51 (List.mem_append_left _ (List.mem_of_getElem? (i := 19) rfl))
theorem gw1244 : Cond.selects RX11 yX11_ended yX11_ended ∈ GW := mG51 (List.mem_append_left _ (List.mem_of_getElem? (i := 20) rfl))
theorem gw1245 : Cond.code yX11_ended cX11_ended 2 (some .int) ∈ GW := mG51 (List.mem_append_left _ (List.mem_of_getElem? (i := 21) rfl))
theorem gw1246 : Cond.methodLink RL 95 yX12_ended ∈ GW := mG51 (List.mem_append_left _ (List.mem_of_getElem? (i := 22) rfl))
theorem gw1247 : Cond.instanceMethod yX12_ended ∈ GW := mG51 (List.mem_append_left _ (List.mem_of_getElem? (i := 23) rfl))
theorem gw1248 : Cond.selects RX12 yX12_ended yX12_ended ∈ GW := mG52 (List.mem_append_left _ (List.mem_of_getElem? (i := 0) rfl))
theorem gw1249 : Cond.code yX12_ended cX12_ended 2 (some .int) ∈ GW := mG52 (List.mem_append_left _ (List.mem_of_getElem? (i := 1) rfl))
theorem gw1250 : Cond.methodLink RL 96 yX11_node ∈ GW := mG52 (List.mem_append_left _ (List.mem_of_getElem? (i := 2) rfl))
theorem gw1251 : Cond.instanceMethod yX11_node ∈ GW := mG52 (List.mem_append_left _ (List.mem_of_getElem? (i := 3) rfl))
theorem gw1252 : Cond.selects RX11 yX11_node yX11_node ∈ GW := mG52 (List.mem_append_left _ (List.mem_of_getElem? (i := 4) rfl))
theorem gw1253 : Cond.code yX11_node cX11_node 4 (some .int) ∈ GW := mG52 (List.mem_append_left _ (List.mem_of_getElem? (i := 5) rfl))
theorem gw1254 : Cond.fieldLink RX11 266 "WirelessCell$Queue" "nextSequence" "I" ∈ GW := mG52 (List.mem_append_left _ (List.mem_of_getElem? (i := 6) rfl))
theorem gw1255 : Cond.fieldLink RX11 273 "WirelessCell$Inbox" "delivered" "I" ∈ GW := mG52 (List.mem_append_left _ (List.mem_of_getElem? (i := 7) rfl))
theorem gw1256 : Cond.fieldLink RX11 278 "WirelessCell$Node" "droppedAgain" "I" ∈ GW := mG52 (List.mem_append_left _ (List.mem_of_getElem? (i := 8) rfl))
theorem gw1257 : Cond.methodLink RX11 244 yX11_keyedAtAp ∈ GW := mG52 (List.mem_append_left _ (List.mem_of_getElem? (i := 9) rfl))
theorem gw1258 : Cond.instanceMethod yX11_keyedAtAp ∈ GW := mG52 (List.mem_append_left _ (List.mem_of_getElem? (i := 10) rfl))
theorem gw1259 : Cond.selects RX11 yX11_keyedAtAp yX11_keyedAtAp ∈ GW := mG52 (List.mem_append_left _ (List.mem_of_getElem? (i := 11) rfl))
theorem gw1260 : Cond.code yX11_keyedAtAp cX11_keyedAtAp 3 (some .int) ∈ GW := mG52 (List.mem_append_left _ (List.mem_of_getElem? (i := 12) rfl))
theorem gw1261 : Cond.methodLink RL 99 yX12_node ∈ GW := mG52 (List.mem_append_left _ (List.mem_of_getElem? (i := 13) rfl))
theorem gw1262 : Cond.instanceMethod yX12_node ∈ GW := mG52 (List.mem_append_left _ (List.mem_of_getElem? (i := 14) rfl))
theorem gw1263 : Cond.selects RX12 yX12_node yX12_node ∈ GW := mG52 (List.mem_append_left _ (List.mem_of_getElem? (i := 15) rfl))
theorem gw1264 : Cond.code yX12_node cX12_node 3 (some .int) ∈ GW := mG52 (List.mem_append_left _ (List.mem_of_getElem? (i := 16) rfl))
theorem gw1265 : Cond.methodLink RX12 615 yX12_keyedMany ∈ GW := mG52 (List.mem_append_left _ (List.mem_of_getElem? (i := 17) rfl))
theorem gw1266 : Cond.instanceMethod yX12_keyedMany ∈ GW := mG52 (List.mem_append_left _ (List.mem_of_getElem? (i := 18) rfl))
theorem gw1267 : Cond.selects RX12 yX12_keyedMany yX12_keyedMany ∈ GW := mG52 (List.mem_append_left _ (List.mem_of_getElem? (i := 19) rfl))
theorem gw1268 : Cond.code yX12_keyedMany cX12_keyedMany 3 (some .int) ∈ GW := mG52 (List.mem_append_left _ (List.mem_of_getElem? (i := 20) rfl))
theorem gw1269 : Cond.methodLink RL 100 yX11_key ∈ GW := mG52 (List.mem_append_left _ (List.mem_of_getElem? (i := 21) rfl))
theorem gw1270 : Cond.instanceMethod yX11_key ∈ GW := mG52 (List.mem_append_left _ (List.mem_of_getElem? (i := 22) rfl))
theorem gw1271 : Cond.selects RX11 yX11_key yX11_key ∈ GW := mG52 (List.mem_append_left _ (List.mem_of_getElem? (i := 23) rfl))
theorem gw1272 : Cond.code yX11_key cX11_key 5 (some .int) ∈ GW := mG53 (List.mem_append_left _ (List.mem_of_getElem? (i := 0) rfl))
theorem gw1273 : Cond.methodLink RL 104 yX12_key ∈ GW := mG53 (List.mem_append_left _ (List.mem_of_getElem? (i := 1) rfl))
theorem gw1274 : Cond.instanceMethod yX12_key ∈ GW := mG53 (List.mem_append_left _ (List.mem_of_getElem? (i := 2) rfl))
theorem gw1275 : Cond.selects RX12 yX12_key yX12_key ∈ GW := mG53 (List.mem_append_left _ (List.mem_of_getElem? (i := 3) rfl))
theorem gw1276 : Cond.code yX12_key cX12_key 5 (some .int) ∈ GW := mG53 (List.mem_append_left _ (List.mem_of_getElem? (i := 4) rfl))
theorem gw1277 : Cond.methodLink RL 105 yX11_delivered ∈ GW := mG53 (List.mem_append_left _ (List.mem_of_getElem? (i := 5) rfl))
theorem gw1278 : Cond.instanceMethod yX11_delivered ∈ GW := mG53 (List.mem_append_left _ (List.mem_of_getElem? (i := 6) rfl))
theorem gw1279 : Cond.selects RX11 yX11_delivered yX11_delivered ∈ GW := mG53 (List.mem_append_left _ (List.mem_of_getElem? (i := 7) rfl))
theorem gw1280 : Cond.code yX11_delivered cX11_delivered 4 (some .int) ∈ GW := mG53 (List.mem_append_left _ (List.mem_of_getElem? (i := 8) rfl))
theorem gw1281 : Cond.methodLink RX11 287 yX3_detail ∈ GW := mG53 (List.mem_append_left _ (List.mem_of_getElem? (i := 9) rfl))
theorem gw1282 : Cond.instanceMethod yX3_detail ∈ GW := mG53 (List.mem_append_left _ (List.mem_of_getElem? (i := 10) rfl))
theorem gw1283 : Cond.selects RX3 yX3_detail yX3_detail ∈ GW := mG53 (List.mem_append_left _ (List.mem_of_getElem? (i := 11) rfl))
theorem gw1284 : Cond.code yX3_detail cX3_detail 3 (some .int) ∈ GW := mG53 (List.mem_append_left _ (List.mem_of_getElem? (i := 12) rfl))
theorem gw1285 : Cond.methodLink RL 108 yX12_delivered ∈ GW := mG53 (List.mem_append_left _ (List.mem_of_getElem? (i := 13) rfl))
theorem gw1286 : Cond.instanceMethod yX12_delivered ∈ GW := mG53 (List.mem_append_left _ (List.mem_of_getElem? (i := 14) rfl))
theorem gw1287 : Cond.selects RX12 yX12_delivered yX12_delivered ∈ GW := mG53 (List.mem_append_left _ (List.mem_of_getElem? (i := 15) rfl))
theorem gw1288 : Cond.code yX12_delivered cX12_delivered 5 (some .int) ∈ GW := mG53 (List.mem_append_left _ (List.mem_of_getElem? (i := 16) rfl))
theorem gw1289 : Cond.constantLong RX12 618 (10) ∈ GW := mG53 (List.mem_append_left _ (List.mem_of_getElem? (i := 17) rfl))
theorem gw1290 : Cond.constantLong RX12 620 (9) ∈ GW := mG53 (List.mem_append_left _ (List.mem_of_getElem? (i := 18) rfl))
theorem gw1291 : Cond.methodLink RL 109 yX11_air ∈ GW := mG53 (List.mem_append_left _ (List.mem_of_getElem? (i := 19) rfl))
theorem gw1292 : Cond.instanceMethod yX11_air ∈ GW := mG53 (List.mem_append_left _ (List.mem_of_getElem? (i := 20) rfl))
theorem gw1293 : Cond.selects RX11 yX11_air yX11_air ∈ GW := mG53 (List.mem_append_left _ (List.mem_of_getElem? (i := 21) rfl))
theorem gw1294 : Cond.code yX11_air cX11_air 4 (some .int) ∈ GW := mG53 (List.mem_append_left _ (List.mem_of_getElem? (i := 22) rfl))
theorem gw1295 : Cond.methodLink RX11 291 yX5_detail ∈ GW := mG53 (List.mem_append_left _ (List.mem_of_getElem? (i := 23) rfl))
theorem gw1296 : Cond.instanceMethod yX5_detail ∈ GW := mG54 (List.mem_append_left _ (List.mem_of_getElem? (i := 0) rfl))
theorem gw1297 : Cond.selects RX5 yX5_detail yX5_detail ∈ GW := mG54 (List.mem_append_left _ (List.mem_of_getElem? (i := 1) rfl))
theorem gw1298 : Cond.code yX5_detail cX5_detail 3 (some .int) ∈ GW := mG54 (List.mem_append_left _ (List.mem_of_getElem? (i := 2) rfl))
theorem gw1299 : Cond.methodLink RL 112 yX12_air ∈ GW := mG54 (List.mem_append_left _ (List.mem_of_getElem? (i := 3) rfl))
theorem gw1300 : Cond.instanceMethod yX12_air ∈ GW := mG54 (List.mem_append_left _ (List.mem_of_getElem? (i := 4) rfl))
theorem gw1301 : Cond.selects RX12 yX12_air yX12_air ∈ GW := mG54 (List.mem_append_left _ (List.mem_of_getElem? (i := 5) rfl))
theorem gw1302 : Cond.code yX12_air cX12_air 4 (some .int) ∈ GW := mG54 (List.mem_append_left _ (List.mem_of_getElem? (i := 6) rfl))
theorem gw1303 : Cond.methodLink RL 113 yX11_count ∈ GW := mG54 (List.mem_append_left _ (List.mem_of_getElem? (i := 7) rfl))
theorem gw1304 : Cond.instanceMethod yX11_count ∈ GW := mG54 (List.mem_append_left _ (List.mem_of_getElem? (i := 8) rfl))
theorem gw1305 : Cond.selects RX11 yX11_count yX11_count ∈ GW := mG54 (List.mem_append_left _ (List.mem_of_getElem? (i := 9) rfl))
theorem gw1306 : Cond.code yX11_count cX11_count 2 (some .int) ∈ GW := mG54 (List.mem_append_left _ (List.mem_of_getElem? (i := 10) rfl))
theorem gw1307 : Cond.fieldLink RX11 292 "WirelessCell$Medium" "notClean" "I" ∈ GW := mG54 (List.mem_append_left _ (List.mem_of_getElem? (i := 11) rfl))
theorem gw1308 : Cond.fieldLink RX11 295 "WirelessCell$Medium" "quietSlots" "I" ∈ GW := mG54 (List.mem_append_left _ (List.mem_of_getElem? (i := 12) rfl))
theorem gw1309 : Cond.methodLink RL 116 yX12_count ∈ GW := mG54 (List.mem_append_left _ (List.mem_of_getElem? (i := 13) rfl))
theorem gw1310 : Cond.instanceMethod yX12_count ∈ GW := mG54 (List.mem_append_left _ (List.mem_of_getElem? (i := 14) rfl))
theorem gw1311 : Cond.selects RX12 yX12_count yX12_count ∈ GW := mG54 (List.mem_append_left _ (List.mem_of_getElem? (i := 15) rfl))
theorem gw1312 : Cond.code yX12_count cX12_count 2 (some .int) ∈ GW := mG54 (List.mem_append_left _ (List.mem_of_getElem? (i := 16) rfl))
theorem gin_X11 : ∀ w ∈ wsX110, w ∈ GW := fun w h => mGY (List.mem_append_left _ h)
theorem gin_X12 : ∀ w ∈ wsX120, w ∈ GW := fun w h => mGY (List.mem_append_right _ (List.mem_append_left _ h))
theorem gin_X5 : ∀ w ∈ wsX50, w ∈ GW := fun w h => mGY (List.mem_append_right _ (List.mem_append_right _ (List.mem_append_left _ h)))
theorem gin_X8 : ∀ w ∈ wsX80, w ∈ GW := fun w h => mGY (List.mem_append_right _ (List.mem_append_right _ (List.mem_append_right _ (List.mem_append_left _ h))))
theorem gin_X1 : ∀ w ∈ wsX10, w ∈ GW := fun w h => mGY (List.mem_append_right _ (List.mem_append_right _ (List.mem_append_right _ (List.mem_append_right _ (List.mem_append_left _ h)))))
theorem gin_X10 : ∀ w ∈ wsX100, w ∈ GW := fun w h => mGY (List.mem_append_right _ (List.mem_append_right _ (List.mem_append_right _ (List.mem_append_right _ (List.mem_append_right _ (List.mem_append_left _ h))))))
theorem gin_X0 : ∀ w ∈ wsX00, w ∈ GW := fun w h => mGY (List.mem_append_right _ (List.mem_append_right _ (List.mem_append_right _ (List.mem_append_right _ (List.mem_append_right _ (List.mem_append_right _ (List.mem_append_left _ h)))))))
theorem gin_X7 : ∀ w ∈ wsX70, w ∈ GW := fun w h => mGY (List.mem_append_right _ (List.mem_append_right _ (List.mem_append_right _ (List.mem_append_right _ (List.mem_append_right _ (List.mem_append_right _ (List.mem_append_right _ (List.mem_append_left _ h))))))))
theorem gin_X4 : ∀ w ∈ wsX40, w ∈ GW := fun w h => mGY (List.mem_append_right _ (List.mem_append_right _ (List.mem_append_right _ (List.mem_append_right _ (List.mem_append_right _ (List.mem_append_right _ (List.mem_append_right _ (List.mem_append_right _ (List.mem_append_left _ h)))))))))
theorem gin_X9 : ∀ w ∈ wsX90, w ∈ GW := fun w h => mGY (List.mem_append_right _ (List.mem_append_right _ (List.mem_append_right _ (List.mem_append_right _ (List.mem_append_right _ (List.mem_append_right _ (List.mem_append_right _ (List.mem_append_right _ (List.mem_append_right _ (List.mem_append_left _ h))))))))))
theorem gin_X3 : ∀ w ∈ wsX30, w ∈ GW := fun w h => mGY (List.mem_append_right _ (List.mem_append_right _ (List.mem_append_right _ (List.mem_append_right _ (List.mem_append_right _ (List.mem_append_right _ (List.mem_append_right _ (List.mem_append_right _ (List.mem_append_right _ (List.mem_append_right _ (List.mem_append_left _ h)))))))))))
theorem gin_X6 : ∀ w ∈ wsX60, w ∈ GW := fun w h => mGY (List.mem_append_right _ (List.mem_append_right _ (List.mem_append_right _ (List.mem_append_right _ (List.mem_append_right _ (List.mem_append_right _ (List.mem_append_right _ (List.mem_append_right _ (List.mem_append_right _ (List.mem_append_right _ (List.mem_append_right _ h)))))))))))
set_option maxRecDepth 100000 in
theorem gwGood : GW.all goodWord = true := by decide +kernel
theorem gwA {w0 : Cond} : GoodIn (w0 :: GW) GW := fun w hm => ⟨List.mem_cons_of_mem _ hm, good_of_word (List.all_eq_true.mp gwGood w hm)⟩
theorem gN {w0 : Cond} {y : MethodName} {c : ByteArray} {n : Nat} {r : Option FieldType} (h5 : Cond.code y c n r ∈ GW) : GoodIn (w0 :: GW) (Cond.code y c n r :: GW) := by
  intro w hw
  rcases List.mem_cons.mp hw with rfl | h
  · exact gwA _ h5
  · exact gwA _ h
theorem gV {w0 : Cond} {own C : String} {idx : Nat} {y : MethodName} {c : ByteArray} {n : Nat} {r : Option FieldType} (h1 : Cond.methodLink own idx y ∈ GW) (h2 : Cond.instanceMethod y ∈ GW) (h3 : Cond.selects C y y ∈ GW) (h4 : Cond.initialized C ∈ GW) (h5 : Cond.code y c n r ∈ GW) : GoodIn (w0 :: GW) (wsV own idx C y (Cond.code y c n r :: GW)) := by
  intro w hw
  unfold wsV at hw
  rcases List.mem_append.mp hw with hw | hw
  · simp only [List.mem_cons, List.not_mem_nil, or_false] at hw
    rcases hw with rfl | rfl | rfl | rfl
    · exact gwA _ h1
    · exact gwA _ h2
    · exact gwA _ h3
    · exact gwA _ h4
  · exact gN h5 w hw
theorem gS {w0 : Cond} {own : String} {idx : Nat} {y : MethodName} {c : ByteArray} {n : Nat} {r : Option FieldType} (h1 : Cond.methodLink own idx y ∈ GW) (h2 : Cond.static y ∈ GW) (h3 : Cond.initialized y.cls ∈ GW) (h5 : Cond.code y c n r ∈ GW) : GoodIn (w0 :: GW) (va_wsS own idx y (Cond.code y c n r :: GW)) := by
  intro w hw
  unfold va_wsS at hw
  rcases List.mem_append.mp hw with hw | hw
  · simp only [List.mem_cons, List.not_mem_nil, or_false] at hw
    rcases hw with rfl | rfl | rfl
    · exact gwA _ h1
    · exact gwA _ h2
    · exact gwA _ h3
  · exact gN h5 w hw
theorem dec_of {c : ByteArray} {L : List (Nat × (Instr × Nat))} (h : L.all (fun q => decide (decode c q.1 = .ok q.2)) = true) {k pc n : Nat} {i : Instr} (hk : L[k]? = some (pc, (i, n))) : decode c pc = .ok (i, n) := of_decide_eq_true (List.all_eq_true.mp h (pc, (i, n)) (List.mem_of_getElem? hk))
def wsX0_init : List Cond := .code yX0_init cX0_init 1 none :: GW
def wsX0_expandKey : List Cond := .code yX0_expandKey cX0_expandKey 7 none :: GW
def wsX0_setFirstBlock : List Cond := .code yX0_setFirstBlock cX0_setFirstBlock 5 none :: GW
def wsX0_encrypt : List Cond := .code yX0_encrypt cX0_encrypt 7 none :: GW
def wsX0_additional : List Cond := .code yX0_additional cX0_additional 2 (some .int) :: GW
def wsX0_addUp : List Cond := .code yX0_addUp cX0_addUp 5 none :: GW
def wsX0_crypt : List Cond := .code yX0_crypt cX0_crypt 6 none :: GW
def wsX0_seal : List Cond := .code yX0_seal cX0_seal 5 none :: GW
def wsX0_open : List Cond := .code yX0_open cX0_open 6 (some .boolean) :: GW
def wsX1_init : List Cond := .code yX1_init cX1_init 1 none :: GW
def wsX1_addLast : List Cond := .code yX1_addLast cX1_addLast 2 (some .boolean) :: GW
def wsX1_takeFirst : List Cond := .code yX1_takeFirst cX1_takeFirst 2 (some .int) :: GW
def wsX2_writeHighestFirst : List Cond := .code yX2_writeHighestFirst cX2_writeHighestFirst 6 none :: GW
def wsX2_crcOf : List Cond := .code yX2_crcOf cX2_crcOf 4 (some .int) :: GW
def wsX2_writeFcs : List Cond := .code yX2_writeFcs cX2_writeFcs 4 none :: GW
def wsX2_hasRightFcs : List Cond := .code yX2_hasRightFcs cX2_hasRightFcs 5 (some .boolean) :: GW
def wsX2_hasToldControl : List Cond := .code yX2_hasToldControl cX2_hasToldControl 2 (some .boolean) :: GW
def wsX2_isTakeable : List Cond := .code yX2_isTakeable cX2_isTakeable 2 (some .boolean) :: GW
def wsJ7_rangeCheck_23922 : List Cond := .code yJ7_rangeCheck_23922 cJ7_rangeCheck_23922 3 none :: GW
def wsJ7_fill_fda19 : List Cond := .code yJ7_fill_fda19 cJ7_fill_fda19 5 none :: GW
def wsX2_writeAddress : List Cond := .code yX2_writeAddress cX2_writeAddress 3 none :: GW
def wsX11_isNode : List Cond := .code yX11_isNode cX11_isNode 1 (some .boolean) :: GW
def wsX2_nodeAt : List Cond := .code yX2_nodeAt cX2_nodeAt 3 (some .int) :: GW
def wsX2_dataFlags : List Cond := .code yX2_dataFlags cX2_dataFlags 4 (some .int) :: GW
def wsX2_writeHeader : List Cond := .code yX2_writeHeader cX2_writeHeader 5 none :: GW
def wsX2_writeSealHeader : List Cond := .code yX2_writeSealHeader cX2_writeSealHeader 4 none :: GW
def wsX2_sealNumber : List Cond := .code yX2_sealNumber cX2_sealNumber 4 (some .long) :: GW
def wsX2_writeBody : List Cond := .code yX2_writeBody cX2_writeBody 3 (some .int) :: GW
def wsX2_writeHead : List Cond := .code yX2_writeHead cX2_writeHead 3 none :: GW
def wsX2_sameBytes : List Cond := .code yX2_sameBytes cX2_sameBytes 6 (some .boolean) :: GW
def wsX2_hasHead : List Cond := .code yX2_hasHead cX2_hasHead 4 (some .boolean) :: GW
def wsX2_handIn : List Cond := .code yX2_handIn cX2_handIn 3 (some .int) :: GW
def wsX3_init : List Cond := .code yX3_init cX3_init 1 none :: GW
def wsX3_addLast : List Cond := .code yX3_addLast cX3_addLast 4 none :: GW
def wsX3_detail : List Cond := .code yX3_detail cX3_detail 3 (some .int) :: GW
def wsX4_init : List Cond := .code yX4_init cX4_init 1 none :: GW
def wsX4_loseKey : List Cond := .code yX4_loseKey cX4_loseKey 2 none :: GW
def wsX4_keepTried : List Cond := .code yX4_keepTried cX4_keepTried 2 none :: GW
def wsX4_keyByTried : List Cond := .code yX4_keyByTried cX4_keyByTried 1 none :: GW
def wsX4_addPart : List Cond := .code yX4_addPart cX4_addPart 7 (some .boolean) :: GW
def wsX5_init : List Cond := .code yX5_init cX5_init 1 none :: GW
def wsX5_addNoise : List Cond := .code yX5_addNoise cX5_addNoise 3 (some .boolean) :: GW
def wsX5_isNoisy : List Cond := .code yX5_isNoisy cX5_isNoisy 2 (some .boolean) :: GW
def wsX5_isQuietSince : List Cond := .code yX5_isQuietSince cX5_isQuietSince 1 (some .boolean) :: GW
def wsX5_passQuiet : List Cond := .code yX5_passQuiet cX5_passQuiet 2 none :: GW
def wsX5_slotsOf : List Cond := .code yX5_slotsOf cX5_slotsOf 1 (some .int) :: GW
def wsX5_begin : List Cond := .code yX5_begin cX5_begin 5 (some .int) :: GW
def wsX5_spoilAll : List Cond := .code yX5_spoilAll cX5_spoilAll 2 none :: GW
def wsX5_closeBeginnings : List Cond := .code yX5_closeBeginnings cX5_closeBeginnings 1 none :: GW
def wsX5_closeEndings : List Cond := .code yX5_closeEndings cX5_closeEndings 4 (some .boolean) :: GW
def wsX5_newestBytes : List Cond := .code yX5_newestBytes cX5_newestBytes 1 (some (.array .int)) :: GW
def wsX5_newestLength : List Cond := .code yX5_newestLength cX5_newestLength 1 (some .int) :: GW
def wsX5_newestSender : List Cond := .code yX5_newestSender cX5_newestSender 1 (some .int) :: GW
def wsJ9_floorMod_7cf53 : List Cond := .code yJ9_floorMod_7cf53 cJ9_floorMod_7cf53 3 (some .int) :: GW
def wsX5_rowOf : List Cond := .code yX5_rowOf cX5_rowOf 2 (some .int) :: GW
def wsX5_detail : List Cond := .code yX5_detail cX5_detail 3 (some .int) :: GW
def wsX6_init : List Cond := .code yX6_init cX6_init 1 none :: GW
def wsX9_init : List Cond := .code yX9_init cX9_init 2 none :: GW
def wsJ7_fill_53178 : List Cond := .code yJ7_fill_53178 cJ7_fill_53178 4 none :: GW
def wsX7_init : List Cond := .code yX7_init cX7_init 2 none :: GW
def wsX7_contends : List Cond := .code yX7_contends cX7_contends 2 (some .boolean) :: GW
def wsX7_dropsAgain : List Cond := .code yX7_dropsAgain cX7_dropsAgain 4 (some .boolean) :: GW
def wsX8_init : List Cond := .code yX8_init cX8_init 1 none :: GW
def wsX8_addLast : List Cond := .code yX8_addLast cX8_addLast 4 (some .boolean) :: GW
def wsX8_slotsAhead : List Cond := .code yX8_slotsAhead cX8_slotsAhead 5 (some .int) :: GW
def wsX8_moveUp : List Cond := .code yX8_moveUp cX8_moveUp 4 none :: GW
def wsX8_begin : List Cond := .code yX8_begin cX8_begin 4 none :: GW
def wsX9_first : List Cond := .code yX9_first cX9_first 1 (some (.object "WirelessCell$Message")) :: GW
def wsX9_addLast : List Cond := .code yX9_addLast cX9_addLast 2 (some (.object "WirelessCell$Message")) :: GW
def wsX9_removeFirst : List Cond := .code yX9_removeFirst cX9_removeFirst 1 none :: GW
def wsX10_init : List Cond := .code yX10_init cX10_init 1 none :: GW
def wsJ0_coder_7d493 : List Cond := .code yJ0_coder_7d493 cJ0_coder_7d493 1 (some .byte) :: GW
def wsJ0_length_8abf5 : List Cond := .code yJ0_length_8abf5 cJ0_length_8abf5 1 (some .int) :: GW
def wsJ0_isLatin1_aae02 : List Cond := .code yJ0_isLatin1_aae02 cJ0_isLatin1_aae02 1 (some .boolean) :: GW
def wsJ3_checkIndex_8e157 : List Cond := .code yJ3_checkIndex_8e157 cJ3_checkIndex_8e157 3 (some .int) :: GW
def wsJ0_checkIndex_df160 : List Cond := .code yJ0_checkIndex_df160 cJ0_checkIndex_df160 2 none :: GW
def wsJ1_charAt_3b067 : List Cond := .code yJ1_charAt_3b067 cJ1_charAt_3b067 2 (some .char) :: GW
def wsJ2_length_9d52b : List Cond := .code yJ2_length_9d52b cJ2_length_9d52b 1 (some .int) :: GW
def wsJ2_checkIndex_2214a : List Cond := .code yJ2_checkIndex_2214a cJ2_checkIndex_2214a 2 none :: GW
def wsJ2_getChar_3b067 : List Cond := .code yJ2_getChar_3b067 cJ2_getChar_3b067 2 (some .char) :: GW
def wsJ2_charAt_3b067 : List Cond := .code yJ2_charAt_3b067 cJ2_charAt_3b067 2 (some .char) :: GW
def wsJ0_charAt_5068e : List Cond := .code yJ0_charAt_5068e cJ0_charAt_5068e 2 (some .char) :: GW
def wsX10_padKey : List Cond := .code yX10_padKey cX10_padKey 5 none :: GW
def wsX10_fillWords : List Cond := .code yX10_fillWords cX10_fillWords 4 none :: GW
def wsX10_addWords : List Cond := .code yX10_addWords cX10_addWords 9 none :: GW
def wsX10_hashText : List Cond := .code yX10_hashText cX10_hashText 5 none :: GW
def wsX10_hashKeyed : List Cond := .code yX10_hashKeyed cX10_hashKeyed 6 none :: GW
def wsX10_derive : List Cond := .code yX10_derive cX10_derive 8 none :: GW
def wsX11_init : List Cond := .code yX11_init cX11_init 2 none :: GW
def wsX11_feedNumber : List Cond := .code yX11_feedNumber cX11_feedNumber 2 none :: GW
def wsX11_feed : List Cond := .code yX11_feed cX11_feed 6 (some .int) :: GW
def wsX11_end : List Cond := .code yX11_end cX11_end 2 (some .int) :: GW
def wsX11_alter : List Cond := .code yX11_alter cX11_alter 3 (some .int) :: GW
def wsX11_check : List Cond := .code yX11_check cX11_check 1 (some .int) :: GW
def wsX11_copy : List Cond := .code yX11_copy cX11_copy 3 (some .int) :: GW
def wsX11_tape : List Cond := .code yX11_tape cX11_tape 2 (some .int) :: GW
def wsX11_isStation : List Cond := .code yX11_isStation cX11_isStation 1 (some .boolean) :: GW
def wsX11_fillByLongs : List Cond := .code yX11_fillByLongs cX11_fillByLongs 9 none :: GW
def wsX11_secret : List Cond := .code yX11_secret cX11_secret 10 (some .int) :: GW
def wsX11_known : List Cond := .code yX11_known cX11_known 10 (some .int) :: GW
def wsX11_nonce : List Cond := .code yX11_nonce cX11_nonce 10 (some .int) :: GW
def wsX11_size : List Cond := .code yX11_size cX11_size 3 (some .int) :: GW
def wsX11_limit : List Cond := .code yX11_limit cX11_limit 3 (some .int) :: GW
def wsX11_draw : List Cond := .code yX11_draw cX11_draw 2 (some .int) :: GW
def wsX11_noise : List Cond := .code yX11_noise cX11_noise 3 (some .int) :: GW
def wsX11_put : List Cond := .code yX11_put cX11_put 2 (some .int) :: GW
def wsX11_openMessage : List Cond := .code yX11_openMessage cX11_openMessage 7 (some (.object "WirelessCell$Message")) :: GW
def wsX11_queueBody : List Cond := .code yX11_queueBody cX11_queueBody 6 none :: GW
def wsX11_join : List Cond := .code yX11_join cX11_join 2 (some .int) :: GW
def wsX11_leave : List Cond := .code yX11_leave cX11_leave 3 (some .int) :: GW
def wsX11_linkOf : List Cond := .code yX11_linkOf cX11_linkOf 3 (some (.object "WirelessCell$Link")) :: GW
def wsX11_queueTape : List Cond := .code yX11_queueTape cX11_queueTape 6 (some .int) :: GW
def wsX11_submit : List Cond := .code yX11_submit cX11_submit 4 (some .int) :: GW
def wsX11_idleSlots : List Cond := .code yX11_idleSlots cX11_idleSlots 3 (some .int) :: GW
def wsX11_beginAck : List Cond := .code yX11_beginAck cX11_beginAck 2 none :: GW
def wsX11_finishFirst : List Cond := .code yX11_finishFirst cX11_finishFirst 4 none :: GW
def wsX11_makeFrame : List Cond := .code yX11_makeFrame cX11_makeFrame 8 none :: GW
def wsX11_beginFrame : List Cond := .code yX11_beginFrame cX11_beginFrame 4 none :: GW
def wsX11_beginNodes : List Cond := .code yX11_beginNodes cX11_beginNodes 4 none :: GW
def wsX11_takeAck : List Cond := .code yX11_takeAck cX11_takeAck 3 none :: GW
def wsX11_takeFrame : List Cond := .code yX11_takeFrame cX11_takeFrame 5 (some .int) :: GW
def wsX11_endFrames : List Cond := .code yX11_endFrames cX11_endFrames 3 (some .int) :: GW
def wsX11_takeSealed : List Cond := .code yX11_takeSealed cX11_takeSealed 7 (some .boolean) :: GW
def wsX11_queueForward : List Cond := .code yX11_queueForward cX11_queueForward 5 none :: GW
def wsX11_passOn : List Cond := .code yX11_passOn cX11_passOn 5 none :: GW
def wsX11_hasRightMic : List Cond := .code yX11_hasRightMic cX11_hasRightMic 4 (some .boolean) :: GW
def wsX11_queueHand : List Cond := .code yX11_queueHand cX11_queueHand 8 none :: GW
def wsX11_takeHandAtAp : List Cond := .code yX11_takeHandAtAp cX11_takeHandAtAp 5 none :: GW
def wsX11_takeHandAtStation : List Cond := .code yX11_takeHandAtStation cX11_takeHandAtStation 5 none :: GW
def wsX11_takeData : List Cond := .code yX11_takeData cX11_takeData 7 none :: GW
def wsX11_hasBody : List Cond := .code yX11_hasBody cX11_hasBody 5 (some .boolean) :: GW
def wsX11_actAtAp : List Cond := .code yX11_actAtAp cX11_actAtAp 4 none :: GW
def wsX11_actAtStation : List Cond := .code yX11_actAtStation cX11_actAtStation 4 none :: GW
def wsX11_takeManagement : List Cond := .code yX11_takeManagement cX11_takeManagement 4 none :: GW
def wsX11_fail : List Cond := .code yX11_fail cX11_fail 2 none :: GW
def wsX11_failWaiters : List Cond := .code yX11_failWaiters cX11_failWaiters 3 none :: GW
def wsX11_countDown : List Cond := .code yX11_countDown cX11_countDown 2 none :: GW
def wsX11_go : List Cond := .code yX11_go cX11_go 6 (some .int) :: GW
def wsX11_ended : List Cond := .code yX11_ended cX11_ended 2 (some .int) :: GW
def wsX11_keyedAtAp : List Cond := .code yX11_keyedAtAp cX11_keyedAtAp 3 (some .int) :: GW
def wsX11_node : List Cond := .code yX11_node cX11_node 4 (some .int) :: GW
def wsX11_key : List Cond := .code yX11_key cX11_key 5 (some .int) :: GW
def wsX11_delivered : List Cond := .code yX11_delivered cX11_delivered 4 (some .int) :: GW
def wsX11_air : List Cond := .code yX11_air cX11_air 4 (some .int) :: GW
def wsX11_count : List Cond := .code yX11_count cX11_count 2 (some .int) :: GW
def wsX12_twice : List Cond := .code yX12_twice cX12_twice 2 (some .int) :: GW
def wsX12_product : List Cond := .code yX12_product cX12_product 5 (some .int) :: GW
def wsX12_turn : List Cond := .code yX12_turn cX12_turn 2 (some .int) :: GW
def wsX12_findBoxes : List Cond := .code yX12_findBoxes cX12_findBoxes 4 none :: GW
def wsX12_init : List Cond := .code yX12_init cX12_init 2 none :: GW
def wsX12_in : List Cond := .code yX12_in cX12_in 6 (some .boolean) :: GW
def wsX12_hashBegin : List Cond := .code yX12_hashBegin cX12_hashBegin 1 none :: GW
def wsX12_left : List Cond := .code yX12_left cX12_left 2 (some .int) :: GW
def wsX12_hash : List Cond := .code yX12_hash cX12_hash 11 none :: GW
def wsX12_hashEnd : List Cond := .code yX12_hashEnd cX12_hashEnd 4 none :: GW
def wsX12_macBegin : List Cond := .code yX12_macBegin cX12_macBegin 5 none :: GW
def wsX12_macEnd : List Cond := .code yX12_macEnd cX12_macEnd 2 none :: GW
def wsX12_expand : List Cond := .code yX12_expand cX12_expand 8 none :: GW
def wsX12_encipher : List Cond := .code yX12_encipher cX12_encipher 7 none :: GW
def wsX12_nonceOf : List Cond := .code yX12_nonceOf cX12_nonceOf 6 none :: GW
def wsX12_chainStep : List Cond := .code yX12_chainStep cX12_chainStep 2 none :: GW
def wsX12_besideAt : List Cond := .code yX12_besideAt cX12_besideAt 3 (some .int) :: GW
def wsX12_counter : List Cond := .code yX12_counter cX12_counter 3 none :: GW
def wsX12_findTag : List Cond := .code yX12_findTag cX12_findTag 8 none :: GW
def wsX12_cover : List Cond := .code yX12_cover cX12_cover 7 none :: GW
def wsX12_crc : List Cond := .code yX12_crc cX12_crc 6 (some .int) :: GW
def wsX12_four : List Cond := .code yX12_four cX12_four 3 none :: GW
def wsX12_feed : List Cond := .code yX12_feed cX12_feed 6 (some .int) :: GW
def wsX12_end : List Cond := .code yX12_end cX12_end 2 (some .int) :: GW
def wsX12_alter : List Cond := .code yX12_alter cX12_alter 3 (some .int) :: GW
def wsX12_check : List Cond := .code yX12_check cX12_check 3 (some .int) :: GW
def wsX12_tape : List Cond := .code yX12_tape cX12_tape 2 (some .int) :: GW
def wsX12_isStation : List Cond := .code yX12_isStation cX12_isStation 1 (some .boolean) :: GW
def wsX12_isNode : List Cond := .code yX12_isNode cX12_isNode 1 (some .boolean) :: GW
def wsX12_putLongs : List Cond := .code yX12_putLongs cX12_putLongs 13 none :: GW
def wsX12_secret : List Cond := .code yX12_secret cX12_secret 10 (some .int) :: GW
def wsX12_known : List Cond := .code yX12_known cX12_known 10 (some .int) :: GW
def wsX12_nonce : List Cond := .code yX12_nonce cX12_nonce 10 (some .int) :: GW
def wsX12_unkey : List Cond := .code yX12_unkey cX12_unkey 2 none :: GW
def wsX12_hashLetters : List Cond := .code yX12_hashLetters cX12_hashLetters 5 none :: GW
def wsX12_hashAddress : List Cond := .code yX12_hashAddress cX12_hashAddress 2 none :: GW
def wsX12_findTried : List Cond := .code yX12_findTried cX12_findTried 8 none :: GW
def wsX12_keepTried : List Cond := .code yX12_keepTried cX12_keepTried 3 none :: GW
def wsX12_macOf : List Cond := .code yX12_macOf cX12_macOf 7 none :: GW
def wsX12_isMac : List Cond := .code yX12_isMac cX12_isMac 8 (some .boolean) :: GW
def wsX12_keyBy : List Cond := .code yX12_keyBy cX12_keyBy 3 none :: GW
def wsX12_drawn : List Cond := .code yX12_drawn cX12_drawn 1 (some .int) :: GW
def wsX12_add : List Cond := .code yX12_add cX12_add 2 none :: GW
def wsX12_isEnded : List Cond := .code yX12_isEnded cX12_isEnded 3 none :: GW
def wsX12_begins : List Cond := .code yX12_begins cX12_begins 2 none :: GW
def wsX12_enqueue : List Cond := .code yX12_enqueue cX12_enqueue 8 none :: GW
def wsX12_leaves : List Cond := .code yX12_leaves cX12_leaves 5 none :: GW
def wsX12_partsOf : List Cond := .code yX12_partsOf cX12_partsOf 3 (some .int) :: GW
def wsX12_isSealed : List Cond := .code yX12_isSealed cX12_isSealed 3 (some .boolean) :: GW
def wsX12_putAddress : List Cond := .code yX12_putAddress cX12_putAddress 4 none :: GW
def wsX12_putCheck : List Cond := .code yX12_putCheck cX12_putCheck 6 none :: GW
def wsX12_pairOf : List Cond := .code yX12_pairOf cX12_pairOf 2 (some .int) :: GW
def wsX12_seal : List Cond := .code yX12_seal cX12_seal 9 none :: GW
def wsX12_make : List Cond := .code yX12_make cX12_make 12 (some .boolean) :: GW
def wsX12_goesOut : List Cond := .code yX12_goesOut cX12_goesOut 9 none :: GW
def wsX12_acknowledge : List Cond := .code yX12_acknowledge cX12_acknowledge 3 none :: GW
def wsX12_sendsAtHand : List Cond := .code yX12_sendsAtHand cX12_sendsAtHand 2 none :: GW
def wsX12_begin : List Cond := .code yX12_begin cX12_begin 4 none :: GW
def wsX12_isNoisy : List Cond := .code yX12_isNoisy cX12_isNoisy 3 (some .boolean) :: GW
def wsX12_isWhole : List Cond := .code yX12_isWhole cX12_isWhole 4 (some .boolean) :: GW
def wsX12_isTold : List Cond := .code yX12_isTold cX12_isTold 3 (some .boolean) :: GW
def wsX12_nodeAt : List Cond := .code yX12_nodeAt cX12_nodeAt 3 (some .int) :: GW
def wsX12_acknowledged : List Cond := .code yX12_acknowledged cX12_acknowledged 2 none :: GW
def wsX12_isBody : List Cond := .code yX12_isBody cX12_isBody 6 (some .boolean) :: GW
def wsX12_sendsEnd : List Cond := .code yX12_sendsEnd cX12_sendsEnd 4 none :: GW
def wsX12_beginsMessage : List Cond := .code yX12_beginsMessage cX12_beginsMessage 3 none :: GW
def wsX12_sendsHand : List Cond := .code yX12_sendsHand cX12_sendsHand 7 none :: GW
def wsX12_asks : List Cond := .code yX12_asks cX12_asks 2 none :: GW
def wsX12_isRight : List Cond := .code yX12_isRight cX12_isRight 7 (some .boolean) :: GW
def wsX12_deliver : List Cond := .code yX12_deliver cX12_deliver 7 none :: GW
def wsX12_whole : List Cond := .code yX12_whole cX12_whole 9 none :: GW
def wsX12_opens : List Cond := .code yX12_opens cX12_opens 9 none :: GW
def wsX12_handOf : List Cond := .code yX12_handOf cX12_handOf 4 (some .int) :: GW
def wsX12_handAp : List Cond := .code yX12_handAp cX12_handAp 4 none :: GW
def wsX12_actsAp : List Cond := .code yX12_actsAp cX12_actsAp 5 none :: GW
def wsX12_handStation : List Cond := .code yX12_handStation cX12_handStation 5 none :: GW
def wsX12_actsStation : List Cond := .code yX12_actsStation cX12_actsStation 3 none :: GW
def wsX12_look : List Cond := .code yX12_look cX12_look 7 none :: GW
def wsX12_over : List Cond := .code yX12_over cX12_over 6 none :: GW
def wsX12_moveLive : List Cond := .code yX12_moveLive cX12_moveLive 4 none :: GW
def wsX12_endAll : List Cond := .code yX12_endAll cX12_endAll 3 none :: GW
def wsX12_fail : List Cond := .code yX12_fail cX12_fail 3 none :: GW
def wsX12_goSlot : List Cond := .code yX12_goSlot cX12_goSlot 4 none :: GW
def wsX12_isKept : List Cond := .code yX12_isKept cX12_isKept 2 (some .boolean) :: GW
def wsX12_copy : List Cond := .code yX12_copy cX12_copy 4 (some .int) :: GW
def wsX12_size : List Cond := .code yX12_size cX12_size 3 (some .int) :: GW
def wsX12_limit : List Cond := .code yX12_limit cX12_limit 3 (some .int) :: GW
def wsX12_draw : List Cond := .code yX12_draw cX12_draw 3 (some .int) :: GW
def wsX12_noise : List Cond := .code yX12_noise cX12_noise 3 (some .int) :: GW
def wsX12_put : List Cond := .code yX12_put cX12_put 3 (some .int) :: GW
def wsX12_join : List Cond := .code yX12_join cX12_join 3 (some .int) :: GW
def wsX12_leave : List Cond := .code yX12_leave cX12_leave 3 (some .int) :: GW
def wsX12_submit : List Cond := .code yX12_submit cX12_submit 6 (some .int) :: GW
def wsX12_go : List Cond := .code yX12_go cX12_go 4 (some .int) :: GW
def wsX12_ended : List Cond := .code yX12_ended cX12_ended 2 (some .int) :: GW
def wsX12_keyedMany : List Cond := .code yX12_keyedMany cX12_keyedMany 3 (some .int) :: GW
def wsX12_node : List Cond := .code yX12_node cX12_node 3 (some .int) :: GW
def wsX12_key : List Cond := .code yX12_key cX12_key 5 (some .int) :: GW
def wsX12_delivered : List Cond := .code yX12_delivered cX12_delivered 5 (some .int) :: GW
def wsX12_air : List Cond := .code yX12_air cX12_air 4 (some .int) :: GW
def wsX12_count : List Cond := .code yX12_count cX12_count 2 (some .int) :: GW
def wsJ9_min_7cf53 : List Cond := .code yJ9_min_7cf53 cJ9_min_7cf53 2 (some .int) :: GW
