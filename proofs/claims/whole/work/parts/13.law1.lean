theorem wlm_379 : Cond.methodLink RL 13 yX8_person ∈ BIG := bigAt 379 (by decide +kernel) (by decide +kernel)
theorem wlm_1040 : Cond.methodLink RL 17 yX9_person ∈ BIG := bigAt 1040 (by decide +kernel) (by decide +kernel)
theorem wlm_395 : Cond.methodLink RL 18 yX8_personIs ∈ BIG := bigAt 395 (by decide +kernel) (by decide +kernel)
theorem wlm_1057 : Cond.methodLink RL 22 yX9_personIs ∈ BIG := bigAt 1057 (by decide +kernel) (by decide +kernel)
theorem wlm_453 : Cond.methodLink RL 23 yX8_become ∈ BIG := bigAt 453 (by decide +kernel) (by decide +kernel)
theorem wlm_1111 : Cond.methodLink RL 26 yX9_become ∈ BIG := bigAt 1111 (by decide +kernel) (by decide +kernel)
theorem wlm_457 : Cond.methodLink RL 27 yX8_as ∈ BIG := bigAt 457 (by decide +kernel) (by decide +kernel)
theorem wlm_1119 : Cond.methodLink RL 30 yX9_as ∈ BIG := bigAt 1119 (by decide +kernel) (by decide +kernel)
theorem wlm_466 : Cond.methodLink RL 31 yX8_gate ∈ BIG := bigAt 466 (by decide +kernel) (by decide +kernel)
theorem wlm_1124 : Cond.methodLink RL 35 yX9_gate ∈ BIG := bigAt 1124 (by decide +kernel) (by decide +kernel)
theorem wlm_480 : Cond.methodLink RL 36 yX8_gateIs ∈ BIG := bigAt 480 (by decide +kernel) (by decide +kernel)
theorem wlm_1138 : Cond.methodLink RL 39 yX9_gateIs ∈ BIG := bigAt 1138 (by decide +kernel) (by decide +kernel)
theorem wlm_485 : Cond.methodLink RL 40 yX8_hold ∈ BIG := bigAt 485 (by decide +kernel) (by decide +kernel)
theorem wlm_1146 : Cond.methodLink RL 43 yX9_hold ∈ BIG := bigAt 1146 (by decide +kernel) (by decide +kernel)
theorem wlm_493 : Cond.methodLink RL 44 yX8_pass ∈ BIG := bigAt 493 (by decide +kernel) (by decide +kernel)
theorem wlm_1150 : Cond.methodLink RL 47 yX9_pass ∈ BIG := bigAt 1150 (by decide +kernel) (by decide +kernel)
theorem wlm_501 : Cond.methodLink RL 48 yX8_stock ∈ BIG := bigAt 501 (by decide +kernel) (by decide +kernel)
theorem wlm_1154 : Cond.methodLink RL 51 yX9_stock ∈ BIG := bigAt 1154 (by decide +kernel) (by decide +kernel)
theorem wlm_509 : Cond.methodLink RL 52 yX8_stockAt ∈ BIG := bigAt 509 (by decide +kernel) (by decide +kernel)
theorem wlm_1158 : Cond.methodLink RL 55 yX9_stockAt ∈ BIG := bigAt 1158 (by decide +kernel) (by decide +kernel)
theorem wlm_513 : Cond.methodLink RL 56 yX8_grass ∈ BIG := bigAt 513 (by decide +kernel) (by decide +kernel)
theorem wlm_1162 : Cond.methodLink RL 59 yX9_grass ∈ BIG := bigAt 1162 (by decide +kernel) (by decide +kernel)
theorem wlc_1456 : Cond.constantLong RL 60 (4294967295) ∈ BIG := bigAt 1456 (by decide +kernel) (by decide +kernel)
theorem wlm_517 : Cond.methodLink RL 62 yX8_feed ∈ BIG := bigAt 517 (by decide +kernel) (by decide +kernel)
theorem wlm_1166 : Cond.methodLink RL 66 yX9_feed ∈ BIG := bigAt 1166 (by decide +kernel) (by decide +kernel)
theorem wlm_525 : Cond.methodLink RL 67 yX8_text ∈ BIG := bigAt 525 (by decide +kernel) (by decide +kernel)
theorem wlm_1171 : Cond.methodLink RL 70 yX9_text ∈ BIG := bigAt 1171 (by decide +kernel) (by decide +kernel)
theorem wlm_680 : Cond.methodLink RL 71 yX8_untell ∈ BIG := bigAt 680 (by decide +kernel) (by decide +kernel)
theorem wlm_1219 : Cond.methodLink RL 74 yX9_untell ∈ BIG := bigAt 1219 (by decide +kernel) (by decide +kernel)
theorem wlm_685 : Cond.methodLink RL 75 yX8_law ∈ BIG := bigAt 685 (by decide +kernel) (by decide +kernel)
theorem wlm_1223 : Cond.methodLink RL 79 yX9_law ∈ BIG := bigAt 1223 (by decide +kernel) (by decide +kernel)
theorem wlm_690 : Cond.methodLink RL 80 yX8_hours ∈ BIG := bigAt 690 (by decide +kernel) (by decide +kernel)
theorem wlm_1227 : Cond.methodLink RL 83 yX9_hours ∈ BIG := bigAt 1227 (by decide +kernel) (by decide +kernel)
theorem wlm_723 : Cond.methodLink RL 84 yX8_loose ∈ BIG := bigAt 723 (by decide +kernel) (by decide +kernel)
theorem wlm_1256 : Cond.methodLink RL 87 yX9_loose ∈ BIG := bigAt 1256 (by decide +kernel) (by decide +kernel)
theorem wlm_737 : Cond.methodLink RL 88 yX8_hour ∈ BIG := bigAt 737 (by decide +kernel) (by decide +kernel)
theorem wlm_1269 : Cond.methodLink RL 91 yX9_hour ∈ BIG := bigAt 1269 (by decide +kernel) (by decide +kernel)
theorem wlm_741 : Cond.methodLink RL 92 yX8_seed ∈ BIG := bigAt 741 (by decide +kernel) (by decide +kernel)
theorem wlm_1273 : Cond.methodLink RL 95 yX9_seed ∈ BIG := bigAt 1273 (by decide +kernel) (by decide +kernel)
theorem wlm_745 : Cond.methodLink RL 96 yX8_then ∈ BIG := bigAt 745 (by decide +kernel) (by decide +kernel)
theorem wlm_1277 : Cond.methodLink RL 99 yX9_then ∈ BIG := bigAt 1277 (by decide +kernel) (by decide +kernel)
theorem wlm_754 : Cond.methodLink RL 100 yX8_first ∈ BIG := bigAt 754 (by decide +kernel) (by decide +kernel)
theorem wlm_1292 : Cond.methodLink RL 103 yX9_first ∈ BIG := bigAt 1292 (by decide +kernel) (by decide +kernel)
theorem wlm_758 : Cond.methodLink RL 104 yX8_fewest ∈ BIG := bigAt 758 (by decide +kernel) (by decide +kernel)
theorem wlm_1297 : Cond.methodLink RL 108 yX9_fewest ∈ BIG := bigAt 1297 (by decide +kernel) (by decide +kernel)
theorem wlm_777 : Cond.methodLink RL 109 yX8_way ∈ BIG := bigAt 777 (by decide +kernel) (by decide +kernel)
theorem wlm_1309 : Cond.methodLink RL 112 yX9_way ∈ BIG := bigAt 1309 (by decide +kernel) (by decide +kernel)
theorem wlm_789 : Cond.methodLink RL 113 yX8_cut ∈ BIG := bigAt 789 (by decide +kernel) (by decide +kernel)
theorem wlm_1321 : Cond.methodLink RL 116 yX9_cut ∈ BIG := bigAt 1321 (by decide +kernel) (by decide +kernel)
theorem wlm_808 : Cond.methodLink RL 117 yX8_roams ∈ BIG := bigAt 808 (by decide +kernel) (by decide +kernel)
theorem wlm_1332 : Cond.methodLink RL 120 yX9_roams ∈ BIG := bigAt 1332 (by decide +kernel) (by decide +kernel)
theorem wlm_813 : Cond.methodLink RL 121 yX8_odds ∈ BIG := bigAt 813 (by decide +kernel) (by decide +kernel)
theorem wlm_1336 : Cond.methodLink RL 124 yX9_odds ∈ BIG := bigAt 1336 (by decide +kernel) (by decide +kernel)
theorem wlm_825 : Cond.methodLink RL 125 yX8_fits ∈ BIG := bigAt 825 (by decide +kernel) (by decide +kernel)
theorem wlm_1340 : Cond.methodLink RL 128 yX9_fits ∈ BIG := bigAt 1340 (by decide +kernel) (by decide +kernel)
theorem wlm_841 : Cond.methodLink RL 129 yX8_voice ∈ BIG := bigAt 841 (by decide +kernel) (by decide +kernel)
theorem wlm_1355 : Cond.methodLink RL 132 yX9_voice ∈ BIG := bigAt 1355 (by decide +kernel) (by decide +kernel)
theorem wlm_868 : Cond.methodLink RL 133 yX8_body ∈ BIG := bigAt 868 (by decide +kernel) (by decide +kernel)
theorem wlm_1404 : Cond.methodLink RL 136 yX9_body ∈ BIG := bigAt 1404 (by decide +kernel) (by decide +kernel)
theorem wlm_872 : Cond.methodLink RL 137 yX8_sheet ∈ BIG := bigAt 872 (by decide +kernel) (by decide +kernel)
theorem wlm_1408 : Cond.methodLink RL 140 yX9_sheet ∈ BIG := bigAt 1408 (by decide +kernel) (by decide +kernel)
theorem wlm_883 : Cond.methodLink RL 141 yX8_put ∈ BIG := bigAt 883 (by decide +kernel) (by decide +kernel)
theorem wlm_1412 : Cond.methodLink RL 144 yX9_put ∈ BIG := bigAt 1412 (by decide +kernel) (by decide +kernel)
theorem wlm_891 : Cond.methodLink RL 145 yX8_move ∈ BIG := bigAt 891 (by decide +kernel) (by decide +kernel)
theorem wlm_1416 : Cond.methodLink RL 149 yX9_move ∈ BIG := bigAt 1416 (by decide +kernel) (by decide +kernel)
theorem wlm_900 : Cond.methodLink RL 150 yX8_holds ∈ BIG := bigAt 900 (by decide +kernel) (by decide +kernel)
theorem wlm_1424 : Cond.methodLink RL 153 yX9_holds ∈ BIG := bigAt 1424 (by decide +kernel) (by decide +kernel)
theorem wlm_909 : Cond.methodLink RL 154 yX8_judge ∈ BIG := bigAt 909 (by decide +kernel) (by decide +kernel)
theorem wlm_1428 : Cond.methodLink RL 157 yX9_judge ∈ BIG := bigAt 1428 (by decide +kernel) (by decide +kernel)
theorem wlm_918 : Cond.methodLink RL 158 yX8_image ∈ BIG := bigAt 918 (by decide +kernel) (by decide +kernel)
theorem wlm_1432 : Cond.methodLink RL 161 yX9_image ∈ BIG := bigAt 1432 (by decide +kernel) (by decide +kernel)
theorem wlm_938 : Cond.methodLink RL 162 yX8_restore ∈ BIG := bigAt 938 (by decide +kernel) (by decide +kernel)
theorem wlm_1436 : Cond.methodLink RL 165 yX9_restore ∈ BIG := bigAt 1436 (by decide +kernel) (by decide +kernel)
theorem wlm_942 : Cond.methodLink RL 166 yX8_tell ∈ BIG := bigAt 942 (by decide +kernel) (by decide +kernel)
theorem wlm_1440 : Cond.methodLink RL 169 yX9_tell ∈ BIG := bigAt 1440 (by decide +kernel) (by decide +kernel)
theorem wlm_946 : Cond.methodLink RL 170 yX8_check ∈ BIG := bigAt 946 (by decide +kernel) (by decide +kernel)
theorem wlm_1444 : Cond.methodLink RL 173 yX9_check ∈ BIG := bigAt 1444 (by decide +kernel) (by decide +kernel)
theorem wlm_956 : Cond.methodLink RL 174 yX8_count ∈ BIG := bigAt 956 (by decide +kernel) (by decide +kernel)
theorem wlm_1448 : Cond.methodLink RL 177 yX9_count ∈ BIG := bigAt 1448 (by decide +kernel) (by decide +kernel)
theorem wlm_960 : Cond.methodLink RL 178 yX8_told ∈ BIG := bigAt 960 (by decide +kernel) (by decide +kernel)
theorem wlm_1452 : Cond.methodLink RL 181 yX9_told ∈ BIG := bigAt 1452 (by decide +kernel) (by decide +kernel)
/-- person: both sides answer alike, and stay related -/
def Sim_person (S : Mem → Mem → Prop) : Prop := ∀ (v1 : Int32) (μ ν : Mem), S μ ν → ∃ (r : Int32) (μ1 ν1 : Mem), f_X8_person v1 μ = some (r, μ1) ∧ f_X9_person v1 ν = some (r, ν1) ∧ S μ1 ν1
/-- personIs: both sides answer alike, and stay related -/
def Sim_personIs (S : Mem → Mem → Prop) : Prop := ∀ (v1 : Int32) (v2 : Int32) (μ ν : Mem), S μ ν → ∃ (r : Int32) (μ1 ν1 : Mem), f_X8_personIs v1 v2 μ = some (r, μ1) ∧ f_X9_personIs v1 v2 ν = some (r, ν1) ∧ S μ1 ν1
/-- become: both sides answer alike, and stay related -/
def Sim_become (S : Mem → Mem → Prop) : Prop := ∀ (v1 : Int32) (v2 : Int32) (μ ν : Mem), S μ ν → ∃ (r : Int32) (μ1 ν1 : Mem), f_X8_become v1 v2 μ = some (r, μ1) ∧ f_X9_become v1 v2 ν = some (r, ν1) ∧ S μ1 ν1
/-- as: both sides answer alike, and stay related -/
def Sim_as (S : Mem → Mem → Prop) : Prop := ∀ (v1 : Int32) (v2 : Int32) (μ ν : Mem), S μ ν → ∃ (r : Int32) (μ1 ν1 : Mem), f_X8_as v1 v2 μ = some (r, μ1) ∧ f_X9_as v1 v2 ν = some (r, ν1) ∧ S μ1 ν1
/-- gate: both sides answer alike, and stay related -/
def Sim_gate (S : Mem → Mem → Prop) : Prop := ∀ (v1 : Int32) (v2 : Int32) (v3 : Int32) (μ ν : Mem), S μ ν → ∃ (r : Int32) (μ1 ν1 : Mem), f_X8_gate v1 v2 v3 μ = some (r, μ1) ∧ f_X9_gate v1 v2 v3 ν = some (r, ν1) ∧ S μ1 ν1
/-- gateIs: both sides answer alike, and stay related -/
def Sim_gateIs (S : Mem → Mem → Prop) : Prop := ∀ (v1 : Int32) (v2 : Int32) (μ ν : Mem), S μ ν → ∃ (r : Int32) (μ1 ν1 : Mem), f_X8_gateIs v1 v2 μ = some (r, μ1) ∧ f_X9_gateIs v1 v2 ν = some (r, ν1) ∧ S μ1 ν1
/-- hold: both sides answer alike, and stay related -/
def Sim_hold (S : Mem → Mem → Prop) : Prop := ∀ (v1 : Int32) (v2 : Int32) (μ ν : Mem), S μ ν → ∃ (r : Int32) (μ1 ν1 : Mem), f_X8_hold v1 v2 μ = some (r, μ1) ∧ f_X9_hold v1 v2 ν = some (r, ν1) ∧ S μ1 ν1
/-- pass: both sides answer alike, and stay related -/
def Sim_pass (S : Mem → Mem → Prop) : Prop := ∀ (v1 : Int32) (v2 : Int32) (μ ν : Mem), S μ ν → ∃ (r : Int32) (μ1 ν1 : Mem), f_X8_pass v1 v2 μ = some (r, μ1) ∧ f_X9_pass v1 v2 ν = some (r, ν1) ∧ S μ1 ν1
/-- stock: both sides answer alike, and stay related -/
def Sim_stock (S : Mem → Mem → Prop) : Prop := ∀ (v1 : Int32) (μ ν : Mem), S μ ν → ∃ (r : Int32) (μ1 ν1 : Mem), f_X8_stock v1 μ = some (r, μ1) ∧ f_X9_stock v1 ν = some (r, ν1) ∧ S μ1 ν1
/-- stockAt: both sides answer alike, and stay related -/
def Sim_stockAt (S : Mem → Mem → Prop) : Prop := ∀ (v1 : Int32) (μ ν : Mem), S μ ν → ∃ (r : Int32) (μ1 ν1 : Mem), f_X8_stockAt v1 μ = some (r, μ1) ∧ f_X9_stockAt v1 ν = some (r, ν1) ∧ S μ1 ν1
/-- grass: both sides answer alike, and stay related -/
def Sim_grass (S : Mem → Mem → Prop) : Prop := ∀ (v1 : Int32) (v2 : Int32) (μ ν : Mem), S μ ν → ∃ (r : Int32) (μ1 ν1 : Mem), f_X8_grass v1 v2 μ = some (r, μ1) ∧ f_X9_grass v1 v2 ν = some (r, ν1) ∧ S μ1 ν1
/-- feed: both sides answer alike, and stay related -/
def Sim_feed (S : Mem → Mem → Prop) : Prop := ∀ (v1 : Int64) (v3 : Int32) (μ ν : Mem), S μ ν → ∃ (r : Int32) (μ1 ν1 : Mem), f_X8_feed v1 v3 μ = some (r, μ1) ∧ f_X9_feed v1 v3 ν = some (r, ν1) ∧ S μ1 ν1
/-- text: both sides answer alike, and stay related -/
def Sim_text (S : Mem → Mem → Prop) : Prop := ∀ (v1 : Int32) (μ ν : Mem), S μ ν → ∃ (r : Int32) (μ1 ν1 : Mem), f_X8_text v1 μ = some (r, μ1) ∧ f_X9_text v1 ν = some (r, ν1) ∧ S μ1 ν1
/-- untell: both sides answer alike, and stay related -/
def Sim_untell (S : Mem → Mem → Prop) : Prop := ∀ (v1 : Int32) (μ ν : Mem), S μ ν → ∃ (r : Int32) (μ1 ν1 : Mem), f_X8_untell v1 μ = some (r, μ1) ∧ f_X9_untell v1 ν = some (r, ν1) ∧ S μ1 ν1
/-- law: both sides answer alike, and stay related -/
def Sim_law (S : Mem → Mem → Prop) : Prop := ∀ (v1 : Int32) (v2 : Int32) (v3 : Int32) (v4 : Int32) (μ ν : Mem), S μ ν → ∃ (r : Int32) (μ1 ν1 : Mem), f_X8_law v1 v2 v3 v4 μ = some (r, μ1) ∧ f_X9_law v1 v2 v3 v4 ν = some (r, ν1) ∧ S μ1 ν1
/-- hours: both sides answer alike, and stay related -/
def Sim_hours (S : Mem → Mem → Prop) : Prop := ∀ (v1 : Int32) (μ ν : Mem), S μ ν → ∃ (r : Int32) (μ1 ν1 : Mem), f_X8_hours v1 μ = some (r, μ1) ∧ f_X9_hours v1 ν = some (r, ν1) ∧ S μ1 ν1
/-- loose: both sides answer alike, and stay related -/
def Sim_loose (S : Mem → Mem → Prop) : Prop := ∀ (v1 : Int32) (μ ν : Mem), S μ ν → ∃ (r : Int32) (μ1 ν1 : Mem), f_X8_loose v1 μ = some (r, μ1) ∧ f_X9_loose v1 ν = some (r, ν1) ∧ S μ1 ν1
/-- hour: both sides answer alike, and stay related -/
def Sim_hour (S : Mem → Mem → Prop) : Prop := ∀ (v1 : Int32) (μ ν : Mem), S μ ν → ∃ (r : Int32) (μ1 ν1 : Mem), f_X8_hour v1 μ = some (r, μ1) ∧ f_X9_hour v1 ν = some (r, ν1) ∧ S μ1 ν1
/-- seed: both sides answer alike, and stay related -/
def Sim_seed (S : Mem → Mem → Prop) : Prop := ∀ (v1 : Int32) (μ ν : Mem), S μ ν → ∃ (r : Int32) (μ1 ν1 : Mem), f_X8_seed v1 μ = some (r, μ1) ∧ f_X9_seed v1 ν = some (r, ν1) ∧ S μ1 ν1
/-- then: both sides answer alike, and stay related -/
def Sim_then (S : Mem → Mem → Prop) : Prop := ∀ (v1 : Int32) (v2 : Int32) (μ ν : Mem), S μ ν → ∃ (r : Int32) (μ1 ν1 : Mem), f_X8_then v1 v2 μ = some (r, μ1) ∧ f_X9_then v1 v2 ν = some (r, ν1) ∧ S μ1 ν1
/-- first: both sides answer alike, and stay related -/
def Sim_first (S : Mem → Mem → Prop) : Prop := ∀ (v1 : Int32) (μ ν : Mem), S μ ν → ∃ (r : Int32) (μ1 ν1 : Mem), f_X8_first v1 μ = some (r, μ1) ∧ f_X9_first v1 ν = some (r, ν1) ∧ S μ1 ν1
/-- fewest: both sides answer alike, and stay related -/
def Sim_fewest (S : Mem → Mem → Prop) : Prop := ∀ (μ ν : Mem), S μ ν → ∃ (r : Int32) (μ1 ν1 : Mem), f_X8_fewest μ = some (r, μ1) ∧ f_X9_fewest ν = some (r, ν1) ∧ S μ1 ν1
/-- way: both sides answer alike, and stay related -/
def Sim_way (S : Mem → Mem → Prop) : Prop := ∀ (v1 : Int32) (v2 : Int32) (μ ν : Mem), S μ ν → ∃ (r : Int32) (μ1 ν1 : Mem), f_X8_way v1 v2 μ = some (r, μ1) ∧ f_X9_way v1 v2 ν = some (r, ν1) ∧ S μ1 ν1
/-- cut: both sides answer alike, and stay related -/
def Sim_cut (S : Mem → Mem → Prop) : Prop := ∀ (v1 : Int32) (v2 : Int32) (v3 : Int32) (μ ν : Mem), S μ ν → ∃ (r : Int32) (μ1 ν1 : Mem), f_X8_cut v1 v2 v3 μ = some (r, μ1) ∧ f_X9_cut v1 v2 v3 ν = some (r, ν1) ∧ S μ1 ν1
/-- roams: both sides answer alike, and stay related -/
def Sim_roams (S : Mem → Mem → Prop) : Prop := ∀ (v1 : Int32) (μ ν : Mem), S μ ν → ∃ (r : Int32) (μ1 ν1 : Mem), f_X8_roams v1 μ = some (r, μ1) ∧ f_X9_roams v1 ν = some (r, ν1) ∧ S μ1 ν1
/-- odds: both sides answer alike, and stay related -/
def Sim_odds (S : Mem → Mem → Prop) : Prop := ∀ (v1 : Int32) (v2 : Int32) (μ ν : Mem), S μ ν → ∃ (r : Int32) (μ1 ν1 : Mem), f_X8_odds v1 v2 μ = some (r, μ1) ∧ f_X9_odds v1 v2 ν = some (r, ν1) ∧ S μ1 ν1
/-- fits: both sides answer alike, and stay related -/
def Sim_fits (S : Mem → Mem → Prop) : Prop := ∀ (v1 : Int32) (μ ν : Mem), S μ ν → ∃ (r : Int32) (μ1 ν1 : Mem), f_X8_fits v1 μ = some (r, μ1) ∧ f_X9_fits v1 ν = some (r, ν1) ∧ S μ1 ν1
/-- voice: both sides answer alike, and stay related -/
def Sim_voice (S : Mem → Mem → Prop) : Prop := ∀ (v1 : Int32) (v2 : Int32) (v3 : Int32) (μ ν : Mem), S μ ν → ∃ (r : Int32) (μ1 ν1 : Mem), f_X8_voice v1 v2 v3 μ = some (r, μ1) ∧ f_X9_voice v1 v2 v3 ν = some (r, ν1) ∧ S μ1 ν1
/-- body: both sides answer alike, and stay related -/
def Sim_body (S : Mem → Mem → Prop) : Prop := ∀ (v1 : Int32) (μ ν : Mem), S μ ν → ∃ (r : Int32) (μ1 ν1 : Mem), f_X8_body v1 μ = some (r, μ1) ∧ f_X9_body v1 ν = some (r, ν1) ∧ S μ1 ν1
/-- sheet: both sides answer alike, and stay related -/
def Sim_sheet (S : Mem → Mem → Prop) : Prop := ∀ (v1 : Int32) (v2 : Int32) (v3 : Int32) (μ ν : Mem), S μ ν → ∃ (r : Int32) (μ1 ν1 : Mem), f_X8_sheet v1 v2 v3 μ = some (r, μ1) ∧ f_X9_sheet v1 v2 v3 ν = some (r, ν1) ∧ S μ1 ν1
/-- put: both sides answer alike, and stay related -/
def Sim_put (S : Mem → Mem → Prop) : Prop := ∀ (v1 : Int32) (v2 : Int32) (v3 : Int32) (μ ν : Mem), S μ ν → ∃ (r : Int32) (μ1 ν1 : Mem), f_X8_put v1 v2 v3 μ = some (r, μ1) ∧ f_X9_put v1 v2 v3 ν = some (r, ν1) ∧ S μ1 ν1
/-- move: both sides answer alike, and stay related -/
def Sim_move (S : Mem → Mem → Prop) : Prop := ∀ (v1 : Int32) (v2 : Int32) (v3 : Int32) (v4 : Int32) (v5 : Int32) (μ ν : Mem), S μ ν → ∃ (r : Int32) (μ1 ν1 : Mem), f_X8_move v1 v2 v3 v4 v5 μ = some (r, μ1) ∧ f_X9_move v1 v2 v3 v4 v5 ν = some (r, ν1) ∧ S μ1 ν1
/-- holds: both sides answer alike, and stay related -/
def Sim_holds (S : Mem → Mem → Prop) : Prop := ∀ (v1 : Int32) (μ ν : Mem), S μ ν → ∃ (r : Int32) (μ1 ν1 : Mem), f_X8_holds v1 μ = some (r, μ1) ∧ f_X9_holds v1 ν = some (r, ν1) ∧ S μ1 ν1
/-- judge: both sides answer alike, and stay related -/
def Sim_judge (S : Mem → Mem → Prop) : Prop := ∀ (v1 : Int32) (μ ν : Mem), S μ ν → ∃ (r : Int32) (μ1 ν1 : Mem), f_X8_judge v1 μ = some (r, μ1) ∧ f_X9_judge v1 ν = some (r, ν1) ∧ S μ1 ν1
/-- image: both sides answer alike, and stay related -/
def Sim_image (S : Mem → Mem → Prop) : Prop := ∀ (μ ν : Mem), S μ ν → ∃ (r : Int32) (μ1 ν1 : Mem), f_X8_image μ = some (r, μ1) ∧ f_X9_image ν = some (r, ν1) ∧ S μ1 ν1
/-- restore: both sides answer alike, and stay related -/
def Sim_restore (S : Mem → Mem → Prop) : Prop := ∀ (μ ν : Mem), S μ ν → ∃ (r : Int32) (μ1 ν1 : Mem), f_X8_restore μ = some (r, μ1) ∧ f_X9_restore ν = some (r, ν1) ∧ S μ1 ν1
/-- tell: both sides answer alike, and stay related -/
def Sim_tell (S : Mem → Mem → Prop) : Prop := ∀ (v1 : Int32) (μ ν : Mem), S μ ν → ∃ (r : Int32) (μ1 ν1 : Mem), f_X8_tell v1 μ = some (r, μ1) ∧ f_X9_tell v1 ν = some (r, ν1) ∧ S μ1 ν1
/-- check: both sides answer alike, and stay related -/
def Sim_check (S : Mem → Mem → Prop) : Prop := ∀ (μ ν : Mem), S μ ν → ∃ (r : Int32) (μ1 ν1 : Mem), f_X8_check μ = some (r, μ1) ∧ f_X9_check ν = some (r, ν1) ∧ S μ1 ν1
/-- count: both sides answer alike, and stay related -/
def Sim_count (S : Mem → Mem → Prop) : Prop := ∀ (v1 : Int32) (μ ν : Mem), S μ ν → ∃ (r : Int32) (μ1 ν1 : Mem), f_X8_count v1 μ = some (r, μ1) ∧ f_X9_count v1 ν = some (r, ν1) ∧ S μ1 ν1
/-- told: both sides answer alike, and stay related -/
def Sim_told (S : Mem → Mem → Prop) : Prop := ∀ (v1 : Int32) (μ ν : Mem), S μ ν → ∃ (r : Int32) (μ1 ν1 : Mem), f_X8_told v1 μ = some (r, μ1) ∧ f_X9_told v1 ν = some (r, ν1) ∧ S μ1 ν1
def SimAll (S : Mem → Mem → Prop) : Prop := Sim_person S ∧ Sim_personIs S ∧ Sim_become S ∧ Sim_as S ∧ Sim_gate S ∧ Sim_gateIs S ∧ Sim_hold S ∧ Sim_pass S ∧ Sim_stock S ∧ Sim_stockAt S ∧ Sim_grass S ∧ Sim_feed S ∧ Sim_text S ∧ Sim_untell S ∧ Sim_law S ∧ Sim_hours S ∧ Sim_loose S ∧ Sim_hour S ∧ Sim_seed S ∧ Sim_then S ∧ Sim_first S ∧ Sim_fewest S ∧ Sim_way S ∧ Sim_cut S ∧ Sim_roams S ∧ Sim_odds S ∧ Sim_fits S ∧ Sim_voice S ∧ Sim_body S ∧ Sim_sheet S ∧ Sim_put S ∧ Sim_move S ∧ Sim_holds S ∧ Sim_judge S ∧ Sim_image S ∧ Sim_restore S ∧ Sim_tell S ∧ Sim_check S ∧ Sim_count S ∧ Sim_told S
