/-! links, methods, rooms: by program -/
theorem fr_X5_74 : hw_FR RX5 74 0 0 := ⟨_, _, _, rfl, by decide, hw_in 87 (by decide +kernel) rfl⟩
theorem fl_X5_74 : hw_FL RX5 74 0 0 .int false := ⟨_, _, _, rfl, by decide, hw_in 87 (by decide +kernel) rfl, by decide +kernel, rfl, (fun h => by cases h)⟩
theorem fr_X5_77 : hw_FR RX5 77 0 1 := ⟨_, _, _, rfl, by decide, hw_in 88 (by decide +kernel) rfl⟩
theorem fl_X5_77 : hw_FL RX5 77 0 1 .long false := ⟨_, _, _, rfl, by decide, hw_in 88 (by decide +kernel) rfl, by decide +kernel, rfl, (fun h => by cases h)⟩
theorem fr_X5_81 : hw_FR RX5 81 0 2 := ⟨_, _, _, rfl, by decide, hw_in 89 (by decide +kernel) rfl⟩
theorem fl_X5_81 : hw_FL RX5 81 0 2 .int false := ⟨_, _, _, rfl, by decide, hw_in 89 (by decide +kernel) rfl, by decide +kernel, rfl, (fun h => by cases h)⟩
theorem fr_X4_67 : hw_FR RX4 67 0 2 := ⟨_, _, _, rfl, by decide, hw_in 90 (by decide +kernel) rfl⟩
theorem fl_X4_67 : hw_FL RX4 67 0 2 .int false := ⟨_, _, _, rfl, by decide, hw_in 90 (by decide +kernel) rfl, by decide +kernel, rfl, (fun h => by cases h)⟩
theorem fr_X0_19 : hw_FR RX0 19 0 3 := ⟨_, _, _, rfl, by decide, hw_in 91 (by decide +kernel) rfl⟩
theorem fl_X0_19 : hw_FL RX0 19 0 3 .int false := ⟨_, _, _, rfl, by decide, hw_in 91 (by decide +kernel) rfl, by decide +kernel, rfl, (fun h => by cases h)⟩
theorem fr_X5_97 : hw_FR RX5 97 0 3 := ⟨_, _, _, rfl, by decide, hw_in 92 (by decide +kernel) rfl⟩
theorem fl_X5_97 : hw_FL RX5 97 0 3 .int false := ⟨_, _, _, rfl, by decide, hw_in 92 (by decide +kernel) rfl, by decide +kernel, rfl, (fun h => by cases h)⟩
theorem fr_X5_115 : hw_FR RX5 115 0 4 := ⟨_, _, _, rfl, by decide, hw_in 93 (by decide +kernel) rfl⟩
theorem fl_X5_115 : hw_FL RX5 115 0 4 .int false := ⟨_, _, _, rfl, by decide, hw_in 93 (by decide +kernel) rfl, by decide +kernel, rfl, (fun h => by cases h)⟩
theorem fr_X5_118 : hw_FR RX5 118 0 5 := ⟨_, _, _, rfl, by decide, hw_in 94 (by decide +kernel) rfl⟩
theorem fl_X5_118 : hw_FL RX5 118 0 5 .boolean false := ⟨_, _, _, rfl, by decide, hw_in 94 (by decide +kernel) rfl, by decide +kernel, rfl, (fun h => by cases h)⟩
theorem fr_X0_9 : hw_FR RX0 9 0 6 := ⟨_, _, _, rfl, by decide, hw_in 95 (by decide +kernel) rfl⟩
theorem fl_X0_9 : hw_FL RX0 9 0 6 (.array .int) true := ⟨_, _, _, rfl, by decide, hw_in 95 (by decide +kernel) rfl, by decide +kernel, rfl, (fun _ => rfl)⟩
theorem fr_X5_87 : hw_FR RX5 87 0 6 := ⟨_, _, _, rfl, by decide, hw_in 96 (by decide +kernel) rfl⟩
theorem fr_X0_15 : hw_FR RX0 15 0 7 := ⟨_, _, _, rfl, by decide, hw_in 97 (by decide +kernel) rfl⟩
theorem fl_X0_15 : hw_FL RX0 15 0 7 (.array .boolean) true := ⟨_, _, _, rfl, by decide, hw_in 97 (by decide +kernel) rfl, by decide +kernel, rfl, (fun _ => rfl)⟩
theorem fr_X5_90 : hw_FR RX5 90 0 7 := ⟨_, _, _, rfl, by decide, hw_in 98 (by decide +kernel) rfl⟩
theorem fr_X3_34 : hw_FR RX3 34 3 0 := ⟨_, _, _, rfl, by decide, hw_in 125 (by decide +kernel) rfl⟩
theorem fl_X3_34 : hw_FL RX3 34 3 0 .int false := ⟨_, _, _, rfl, by decide, hw_in 125 (by decide +kernel) rfl, by decide +kernel, rfl, (fun h => by cases h)⟩
theorem fr_X5_131 : hw_FR RX5 131 3 0 := ⟨_, _, _, rfl, by decide, hw_in 126 (by decide +kernel) rfl⟩
theorem fl_X5_131 : hw_FL RX5 131 3 0 .int false := ⟨_, _, _, rfl, by decide, hw_in 126 (by decide +kernel) rfl, by decide +kernel, rfl, (fun h => by cases h)⟩
theorem fr_X5_134 : hw_FR RX5 134 3 1 := ⟨_, _, _, rfl, by decide, hw_in 127 (by decide +kernel) rfl⟩
theorem fl_X5_134 : hw_FL RX5 134 3 1 .int false := ⟨_, _, _, rfl, by decide, hw_in 127 (by decide +kernel) rfl, by decide +kernel, rfl, (fun h => by cases h)⟩
theorem fr_X5_145 : hw_FR RX5 145 3 2 := ⟨_, _, _, rfl, by decide, hw_in 128 (by decide +kernel) rfl⟩
theorem fl_X5_145 : hw_FL RX5 145 3 2 .int false := ⟨_, _, _, rfl, by decide, hw_in 128 (by decide +kernel) rfl, by decide +kernel, rfl, (fun h => by cases h)⟩
theorem fr_X5_137 : hw_FR RX5 137 3 3 := ⟨_, _, _, rfl, by decide, hw_in 129 (by decide +kernel) rfl⟩
theorem fl_X5_137 : hw_FL RX5 137 3 3 .int false := ⟨_, _, _, rfl, by decide, hw_in 129 (by decide +kernel) rfl, by decide +kernel, rfl, (fun h => by cases h)⟩
theorem fr_X3_22 : hw_FR RX3 22 3 4 := ⟨_, _, _, rfl, by decide, hw_in 130 (by decide +kernel) rfl⟩
theorem fl_X3_22 : hw_FL RX3 22 3 4 .int false := ⟨_, _, _, rfl, by decide, hw_in 130 (by decide +kernel) rfl, by decide +kernel, rfl, (fun h => by cases h)⟩
theorem fr_X5_140 : hw_FR RX5 140 3 4 := ⟨_, _, _, rfl, by decide, hw_in 131 (by decide +kernel) rfl⟩
theorem fl_X5_140 : hw_FL RX5 140 3 4 .int false := ⟨_, _, _, rfl, by decide, hw_in 131 (by decide +kernel) rfl, by decide +kernel, rfl, (fun h => by cases h)⟩
theorem fr_X3_25 : hw_FR RX3 25 3 5 := ⟨_, _, _, rfl, by decide, hw_in 132 (by decide +kernel) rfl⟩
theorem fl_X3_25 : hw_FL RX3 25 3 5 .int false := ⟨_, _, _, rfl, by decide, hw_in 132 (by decide +kernel) rfl, by decide +kernel, rfl, (fun h => by cases h)⟩
theorem fr_X5_221 : hw_FR RX5 221 3 5 := ⟨_, _, _, rfl, by decide, hw_in 133 (by decide +kernel) rfl⟩
theorem fl_X5_221 : hw_FL RX5 221 3 5 .int false := ⟨_, _, _, rfl, by decide, hw_in 133 (by decide +kernel) rfl, by decide +kernel, rfl, (fun h => by cases h)⟩
theorem fr_X5_162 : hw_FR RX5 162 3 6 := ⟨_, _, _, rfl, by decide, hw_in 134 (by decide +kernel) rfl⟩
theorem fl_X5_162 : hw_FL RX5 162 3 6 .int false := ⟨_, _, _, rfl, by decide, hw_in 134 (by decide +kernel) rfl, by decide +kernel, rfl, (fun h => by cases h)⟩
theorem fr_X3_18 : hw_FR RX3 18 3 7 := ⟨_, _, _, rfl, by decide, hw_in 135 (by decide +kernel) rfl⟩
theorem fl_X3_18 : hw_FL RX3 18 3 7 .int false := ⟨_, _, _, rfl, by decide, hw_in 135 (by decide +kernel) rfl, by decide +kernel, rfl, (fun h => by cases h)⟩
theorem fr_X5_275 : hw_FR RX5 275 3 7 := ⟨_, _, _, rfl, by decide, hw_in 136 (by decide +kernel) rfl⟩
theorem fl_X5_275 : hw_FL RX5 275 3 7 .int false := ⟨_, _, _, rfl, by decide, hw_in 136 (by decide +kernel) rfl, by decide +kernel, rfl, (fun h => by cases h)⟩
theorem fr_X3_9 : hw_FR RX3 9 3 8 := ⟨_, _, _, rfl, by decide, hw_in 137 (by decide +kernel) rfl⟩
theorem fl_X3_9 : hw_FL RX3 9 3 8 (.array .int) true := ⟨_, _, _, rfl, by decide, hw_in 137 (by decide +kernel) rfl, by decide +kernel, rfl, (fun _ => rfl)⟩
theorem fr_X5_276 : hw_FR RX5 276 3 8 := ⟨_, _, _, rfl, by decide, hw_in 138 (by decide +kernel) rfl⟩
theorem fr_X3_15 : hw_FR RX3 15 3 9 := ⟨_, _, _, rfl, by decide, hw_in 139 (by decide +kernel) rfl⟩
theorem fl_X3_15 : hw_FL RX3 15 3 9 (.array .int) true := ⟨_, _, _, rfl, by decide, hw_in 139 (by decide +kernel) rfl, by decide +kernel, rfl, (fun _ => rfl)⟩
theorem fr_X5_278 : hw_FR RX5 278 3 9 := ⟨_, _, _, rfl, by decide, hw_in 140 (by decide +kernel) rfl⟩
theorem fr_X5_182 : hw_FR RX5 182 1 0 := ⟨_, _, _, rfl, by decide, hw_in 169 (by decide +kernel) rfl⟩
theorem fl_X5_182 : hw_FL RX5 182 1 0 .int false := ⟨_, _, _, rfl, by decide, hw_in 169 (by decide +kernel) rfl, by decide +kernel, rfl, (fun h => by cases h)⟩
theorem fr_X5_185 : hw_FR RX5 185 1 1 := ⟨_, _, _, rfl, by decide, hw_in 170 (by decide +kernel) rfl⟩
theorem fl_X5_185 : hw_FL RX5 185 1 1 .int false := ⟨_, _, _, rfl, by decide, hw_in 170 (by decide +kernel) rfl, by decide +kernel, rfl, (fun h => by cases h)⟩
theorem fr_X5_188 : hw_FR RX5 188 1 2 := ⟨_, _, _, rfl, by decide, hw_in 171 (by decide +kernel) rfl⟩
theorem fl_X5_188 : hw_FL RX5 188 1 2 .int false := ⟨_, _, _, rfl, by decide, hw_in 171 (by decide +kernel) rfl, by decide +kernel, rfl, (fun h => by cases h)⟩
theorem fr_X5_189 : hw_FR RX5 189 1 3 := ⟨_, _, _, rfl, by decide, hw_in 172 (by decide +kernel) rfl⟩
theorem fl_X5_189 : hw_FL RX5 189 1 3 .int false := ⟨_, _, _, rfl, by decide, hw_in 172 (by decide +kernel) rfl, by decide +kernel, rfl, (fun h => by cases h)⟩
theorem fr_X5_192 : hw_FR RX5 192 1 4 := ⟨_, _, _, rfl, by decide, hw_in 173 (by decide +kernel) rfl⟩
theorem fl_X5_192 : hw_FL RX5 192 1 4 .boolean false := ⟨_, _, _, rfl, by decide, hw_in 173 (by decide +kernel) rfl, by decide +kernel, rfl, (fun h => by cases h)⟩
theorem fr_X5_195 : hw_FR RX5 195 1 5 := ⟨_, _, _, rfl, by decide, hw_in 174 (by decide +kernel) rfl⟩
theorem fl_X5_195 : hw_FL RX5 195 1 5 .boolean false := ⟨_, _, _, rfl, by decide, hw_in 174 (by decide +kernel) rfl, by decide +kernel, rfl, (fun h => by cases h)⟩
theorem fr_X2_11 : hw_FR RX2 11 2 0 := ⟨_, _, _, rfl, by decide, hw_in 196 (by decide +kernel) rfl⟩
theorem fl_X2_11 : hw_FL RX2 11 2 0 (.array (.array .long)) true := ⟨_, _, _, rfl, by decide, hw_in 196 (by decide +kernel) rfl, by decide +kernel, rfl, (fun _ => rfl)⟩
theorem fr_X4_70 : hw_FR RX4 70 2 0 := ⟨_, _, _, rfl, by decide, hw_in 197 (by decide +kernel) rfl⟩
theorem fr_X5_171 : hw_FR RX5 171 2 0 := ⟨_, _, _, rfl, by decide, hw_in 198 (by decide +kernel) rfl⟩
theorem fr_X2_16 : hw_FR RX2 16 2 1 := ⟨_, _, _, rfl, by decide, hw_in 199 (by decide +kernel) rfl⟩
theorem fl_X2_16 : hw_FL RX2 16 2 1 (.array (.array .long)) true := ⟨_, _, _, rfl, by decide, hw_in 199 (by decide +kernel) rfl, by decide +kernel, rfl, (fun _ => rfl)⟩
theorem fr_X5_206 : hw_FR RX5 206 2 1 := ⟨_, _, _, rfl, by decide, hw_in 200 (by decide +kernel) rfl⟩
theorem fr_X4_31 : hw_FR RX4 31 4 0 := ⟨_, _, _, rfl, by decide, hw_in 213 (by decide +kernel) rfl⟩
theorem fl_X4_31 : hw_FL RX4 31 4 0 (.array (.object "HundiHall$Broker")) true := ⟨_, _, _, rfl, by decide, hw_in 213 (by decide +kernel) rfl, by decide +kernel, rfl, (fun _ => rfl)⟩
theorem fr_X4_35 : hw_FR RX4 35 4 1 := ⟨_, _, _, rfl, by decide, hw_in 214 (by decide +kernel) rfl⟩
theorem fl_X4_35 : hw_FL RX4 35 4 1 (.object "HundiHall$Ledger") true := ⟨_, _, _, rfl, by decide, hw_in 214 (by decide +kernel) rfl, by decide +kernel, rfl, (fun _ => rfl)⟩
theorem fr_X4_9 : hw_FR RX4 9 4 2 := ⟨_, _, _, rfl, by decide, hw_in 215 (by decide +kernel) rfl⟩
theorem fl_X4_9 : hw_FL RX4 9 4 2 (.array .boolean) true := ⟨_, _, _, rfl, by decide, hw_in 215 (by decide +kernel) rfl, by decide +kernel, rfl, (fun _ => rfl)⟩
theorem fr_X4_15 : hw_FR RX4 15 4 3 := ⟨_, _, _, rfl, by decide, hw_in 216 (by decide +kernel) rfl⟩
theorem fl_X4_15 : hw_FL RX4 15 4 3 (.array .boolean) true := ⟨_, _, _, rfl, by decide, hw_in 216 (by decide +kernel) rfl, by decide +kernel, rfl, (fun _ => rfl)⟩
theorem fr_X4_18 : hw_FR RX4 18 4 4 := ⟨_, _, _, rfl, by decide, hw_in 217 (by decide +kernel) rfl⟩
theorem fl_X4_18 : hw_FL RX4 18 4 4 (.array .boolean) true := ⟨_, _, _, rfl, by decide, hw_in 217 (by decide +kernel) rfl, by decide +kernel, rfl, (fun _ => rfl)⟩
theorem fr_X4_21 : hw_FR RX4 21 4 5 := ⟨_, _, _, rfl, by decide, hw_in 218 (by decide +kernel) rfl⟩
theorem fl_X4_21 : hw_FL RX4 21 4 5 (.array .int) true := ⟨_, _, _, rfl, by decide, hw_in 218 (by decide +kernel) rfl, by decide +kernel, rfl, (fun _ => rfl)⟩
theorem fr_X3_37 : hw_FR RX3 37 4 5 := ⟨_, _, _, rfl, by decide, hw_in 219 (by decide +kernel) rfl⟩
theorem fr_X4_25 : hw_FR RX4 25 4 6 := ⟨_, _, _, rfl, by decide, hw_in 220 (by decide +kernel) rfl⟩
theorem fl_X4_25 : hw_FL RX4 25 4 6 (.array .int) true := ⟨_, _, _, rfl, by decide, hw_in 220 (by decide +kernel) rfl, by decide +kernel, rfl, (fun _ => rfl)⟩
theorem fr_X4_28 : hw_FR RX4 28 4 7 := ⟨_, _, _, rfl, by decide, hw_in 221 (by decide +kernel) rfl⟩
theorem fl_X4_28 : hw_FL RX4 28 4 7 (.array .int) true := ⟨_, _, _, rfl, by decide, hw_in 221 (by decide +kernel) rfl, by decide +kernel, rfl, (fun _ => rfl)⟩
theorem fr_X3_31 : hw_FR RX3 31 4 7 := ⟨_, _, _, rfl, by decide, hw_in 222 (by decide +kernel) rfl⟩
theorem fr_X5_215 : hw_FR RX5 215 4 7 := ⟨_, _, _, rfl, by decide, hw_in 223 (by decide +kernel) rfl⟩
theorem fr_X4_53 : hw_FR RX4 53 4 8 := ⟨_, _, _, rfl, by decide, hw_in 224 (by decide +kernel) rfl⟩
theorem fl_X4_53 : hw_FL RX4 53 4 8 .int false := ⟨_, _, _, rfl, by decide, hw_in 224 (by decide +kernel) rfl, by decide +kernel, rfl, (fun h => by cases h)⟩
theorem fr_X3_28 : hw_FR RX3 28 4 8 := ⟨_, _, _, rfl, by decide, hw_in 225 (by decide +kernel) rfl⟩
theorem fl_X3_28 : hw_FL RX3 28 4 8 .int false := ⟨_, _, _, rfl, by decide, hw_in 225 (by decide +kernel) rfl, by decide +kernel, rfl, (fun h => by cases h)⟩
theorem fr_X5_212 : hw_FR RX5 212 4 8 := ⟨_, _, _, rfl, by decide, hw_in 226 (by decide +kernel) rfl⟩
theorem fl_X5_212 : hw_FL RX5 212 4 8 .int false := ⟨_, _, _, rfl, by decide, hw_in 226 (by decide +kernel) rfl, by decide +kernel, rfl, (fun h => by cases h)⟩
theorem fr_X4_39 : hw_FR RX4 39 4 9 := ⟨_, _, _, rfl, by decide, hw_in 227 (by decide +kernel) rfl⟩
theorem fl_X4_39 : hw_FL RX4 39 4 9 .int false := ⟨_, _, _, rfl, by decide, hw_in 227 (by decide +kernel) rfl, by decide +kernel, rfl, (fun h => by cases h)⟩
theorem fr_X4_43 : hw_FR RX4 43 4 10 := ⟨_, _, _, rfl, by decide, hw_in 228 (by decide +kernel) rfl⟩
theorem fl_X4_43 : hw_FL RX4 43 4 10 .boolean false := ⟨_, _, _, rfl, by decide, hw_in 228 (by decide +kernel) rfl, by decide +kernel, rfl, (fun h => by cases h)⟩
theorem wc_X5_50 : Cond.constant RX5 50 1000000 ∈ hw_TB := hw_in 252 (by decide +kernel) rfl
theorem fr_X5_11 : hw_FR RX5 11 5 0 := ⟨_, _, _, rfl, by decide, hw_in 253 (by decide +kernel) rfl⟩
theorem fl_X5_11 : hw_FL RX5 11 5 0 (.array (.object "HundiHall$Broker")) true := ⟨_, _, _, rfl, by decide, hw_in 253 (by decide +kernel) rfl, by decide +kernel, rfl, (fun _ => rfl)⟩
theorem fr_X5_18 : hw_FR RX5 18 5 1 := ⟨_, _, _, rfl, by decide, hw_in 254 (by decide +kernel) rfl⟩
theorem fl_X5_18 : hw_FL RX5 18 5 1 (.array (.object "HundiHall$Order")) true := ⟨_, _, _, rfl, by decide, hw_in 254 (by decide +kernel) rfl, by decide +kernel, rfl, (fun _ => rfl)⟩
theorem fr_X5_25 : hw_FR RX5 25 5 2 := ⟨_, _, _, rfl, by decide, hw_in 255 (by decide +kernel) rfl⟩
theorem fl_X5_25 : hw_FL RX5 25 5 2 (.array (.object "HundiHall$Courier")) true := ⟨_, _, _, rfl, by decide, hw_in 255 (by decide +kernel) rfl, by decide +kernel, rfl, (fun _ => rfl)⟩
theorem fr_X5_33 : hw_FR RX5 33 5 3 := ⟨_, _, _, rfl, by decide, hw_in 256 (by decide +kernel) rfl⟩
theorem fl_X5_33 : hw_FL RX5 33 5 3 (.object "HundiHall$Ledger") true := ⟨_, _, _, rfl, by decide, hw_in 256 (by decide +kernel) rfl, by decide +kernel, rfl, (fun _ => rfl)⟩
theorem fr_X5_42 : hw_FR RX5 42 5 4 := ⟨_, _, _, rfl, by decide, hw_in 257 (by decide +kernel) rfl⟩
theorem fl_X5_42 : hw_FL RX5 42 5 4 (.object "HundiHall$WayFinder") true := ⟨_, _, _, rfl, by decide, hw_in 257 (by decide +kernel) rfl, by decide +kernel, rfl, (fun _ => rfl)⟩
theorem fr_X5_46 : hw_FR RX5 46 5 5 := ⟨_, _, _, rfl, by decide, hw_in 258 (by decide +kernel) rfl⟩
theorem fl_X5_46 : hw_FL RX5 46 5 5 (.array .int) true := ⟨_, _, _, rfl, by decide, hw_in 258 (by decide +kernel) rfl, by decide +kernel, rfl, (fun _ => rfl)⟩
theorem fr_X5_51 : hw_FR RX5 51 5 6 := ⟨_, _, _, rfl, by decide, hw_in 259 (by decide +kernel) rfl⟩
theorem fl_X5_51 : hw_FL RX5 51 5 6 (.array .int) true := ⟨_, _, _, rfl, by decide, hw_in 259 (by decide +kernel) rfl, by decide +kernel, rfl, (fun _ => rfl)⟩
theorem fr_X5_54 : hw_FR RX5 54 5 7 := ⟨_, _, _, rfl, by decide, hw_in 260 (by decide +kernel) rfl⟩
theorem fl_X5_54 : hw_FL RX5 54 5 7 (.array .boolean) true := ⟨_, _, _, rfl, by decide, hw_in 260 (by decide +kernel) rfl, by decide +kernel, rfl, (fun _ => rfl)⟩
theorem fr_X5_66 : hw_FR RX5 66 5 8 := ⟨_, _, _, rfl, by decide, hw_in 261 (by decide +kernel) rfl⟩
theorem fl_X5_66 : hw_FL RX5 66 5 8 .int false := ⟨_, _, _, rfl, by decide, hw_in 261 (by decide +kernel) rfl, by decide +kernel, rfl, (fun h => by cases h)⟩
theorem fr_X5_124 : hw_FR RX5 124 5 9 := ⟨_, _, _, rfl, by decide, hw_in 262 (by decide +kernel) rfl⟩
theorem fl_X5_124 : hw_FL RX5 124 5 9 .int false := ⟨_, _, _, rfl, by decide, hw_in 262 (by decide +kernel) rfl, by decide +kernel, rfl, (fun h => by cases h)⟩
theorem fr_X5_179 : hw_FR RX5 179 5 10 := ⟨_, _, _, rfl, by decide, hw_in 263 (by decide +kernel) rfl⟩
theorem fl_X5_179 : hw_FL RX5 179 5 10 .int false := ⟨_, _, _, rfl, by decide, hw_in 263 (by decide +kernel) rfl, by decide +kernel, rfl, (fun h => by cases h)⟩
theorem fr_X5_112 : hw_FR RX5 112 5 11 := ⟨_, _, _, rfl, by decide, hw_in 264 (by decide +kernel) rfl⟩
theorem fl_X5_112 : hw_FL RX5 112 5 11 .int false := ⟨_, _, _, rfl, by decide, hw_in 264 (by decide +kernel) rfl, by decide +kernel, rfl, (fun h => by cases h)⟩
theorem fr_X5_93 : hw_FR RX5 93 5 12 := ⟨_, _, _, rfl, by decide, hw_in 265 (by decide +kernel) rfl⟩
theorem fl_X5_93 : hw_FL RX5 93 5 12 .boolean false := ⟨_, _, _, rfl, by decide, hw_in 265 (by decide +kernel) rfl, by decide +kernel, rfl, (fun h => by cases h)⟩
theorem fr_X5_121 : hw_FR RX5 121 5 13 := ⟨_, _, _, rfl, by decide, hw_in 266 (by decide +kernel) rfl⟩
theorem fl_X5_121 : hw_FL RX5 121 5 13 .long false := ⟨_, _, _, rfl, by decide, hw_in 266 (by decide +kernel) rfl, by decide +kernel, rfl, (fun h => by cases h)⟩
theorem wc_X6_87 : Cond.constant RX6 87 1000000 ∈ hw_TB := hw_in 780 (by decide +kernel) rfl
theorem fr_X6_109 : hw_FR RX6 109 6 0 := ⟨_, _, _, rfl, by decide, hw_in 781 (by decide +kernel) rfl⟩
theorem fl_X6_109 : hw_FL RX6 109 6 0 .int false := ⟨_, _, _, rfl, by decide, hw_in 781 (by decide +kernel) rfl, by decide +kernel, rfl, (fun h => by cases h)⟩
theorem fr_X6_194 : hw_FR RX6 194 6 1 := ⟨_, _, _, rfl, by decide, hw_in 782 (by decide +kernel) rfl⟩
theorem fl_X6_194 : hw_FL RX6 194 6 1 .int false := ⟨_, _, _, rfl, by decide, hw_in 782 (by decide +kernel) rfl, by decide +kernel, rfl, (fun h => by cases h)⟩
theorem fr_X6_131 : hw_FR RX6 131 6 2 := ⟨_, _, _, rfl, by decide, hw_in 783 (by decide +kernel) rfl⟩
theorem fl_X6_131 : hw_FL RX6 131 6 2 .boolean false := ⟨_, _, _, rfl, by decide, hw_in 783 (by decide +kernel) rfl, by decide +kernel, rfl, (fun h => by cases h)⟩
theorem fr_X6_113 : hw_FR RX6 113 6 3 := ⟨_, _, _, rfl, by decide, hw_in 784 (by decide +kernel) rfl⟩
theorem fl_X6_113 : hw_FL RX6 113 6 3 .int false := ⟨_, _, _, rfl, by decide, hw_in 784 (by decide +kernel) rfl, by decide +kernel, rfl, (fun h => by cases h)⟩
theorem fr_X6_7 : hw_FR RX6 7 6 4 := ⟨_, _, _, rfl, by decide, hw_in 785 (by decide +kernel) rfl⟩
theorem fl_X6_7 : hw_FL RX6 7 6 4 (.array .int) true := ⟨_, _, _, rfl, by decide, hw_in 785 (by decide +kernel) rfl, by decide +kernel, rfl, (fun _ => rfl)⟩
theorem fr_X6_13 : hw_FR RX6 13 6 5 := ⟨_, _, _, rfl, by decide, hw_in 786 (by decide +kernel) rfl⟩
theorem fl_X6_13 : hw_FL RX6 13 6 5 (.array .long) true := ⟨_, _, _, rfl, by decide, hw_in 786 (by decide +kernel) rfl, by decide +kernel, rfl, (fun _ => rfl)⟩
theorem fr_X6_17 : hw_FR RX6 17 6 6 := ⟨_, _, _, rfl, by decide, hw_in 787 (by decide +kernel) rfl⟩
theorem fl_X6_17 : hw_FL RX6 17 6 6 (.array .int) true := ⟨_, _, _, rfl, by decide, hw_in 787 (by decide +kernel) rfl, by decide +kernel, rfl, (fun _ => rfl)⟩
theorem fr_X6_20 : hw_FR RX6 20 6 7 := ⟨_, _, _, rfl, by decide, hw_in 788 (by decide +kernel) rfl⟩
theorem fl_X6_20 : hw_FL RX6 20 6 7 (.array .int) true := ⟨_, _, _, rfl, by decide, hw_in 788 (by decide +kernel) rfl, by decide +kernel, rfl, (fun _ => rfl)⟩
theorem fr_X6_23 : hw_FR RX6 23 6 8 := ⟨_, _, _, rfl, by decide, hw_in 789 (by decide +kernel) rfl⟩
theorem fl_X6_23 : hw_FL RX6 23 6 8 (.array .int) true := ⟨_, _, _, rfl, by decide, hw_in 789 (by decide +kernel) rfl, by decide +kernel, rfl, (fun _ => rfl)⟩
theorem fr_X6_26 : hw_FR RX6 26 6 9 := ⟨_, _, _, rfl, by decide, hw_in 790 (by decide +kernel) rfl⟩
theorem fl_X6_26 : hw_FL RX6 26 6 9 (.array .boolean) true := ⟨_, _, _, rfl, by decide, hw_in 790 (by decide +kernel) rfl, by decide +kernel, rfl, (fun _ => rfl)⟩
theorem fr_X6_30 : hw_FR RX6 30 6 10 := ⟨_, _, _, rfl, by decide, hw_in 791 (by decide +kernel) rfl⟩
theorem fl_X6_30 : hw_FL RX6 30 6 10 (.array .int) true := ⟨_, _, _, rfl, by decide, hw_in 791 (by decide +kernel) rfl, by decide +kernel, rfl, (fun _ => rfl)⟩
theorem fr_X6_33 : hw_FR RX6 33 6 11 := ⟨_, _, _, rfl, by decide, hw_in 792 (by decide +kernel) rfl⟩
theorem fl_X6_33 : hw_FL RX6 33 6 11 (.array .boolean) true := ⟨_, _, _, rfl, by decide, hw_in 792 (by decide +kernel) rfl, by decide +kernel, rfl, (fun _ => rfl)⟩
theorem fr_X6_36 : hw_FR RX6 36 6 12 := ⟨_, _, _, rfl, by decide, hw_in 793 (by decide +kernel) rfl⟩
theorem fl_X6_36 : hw_FL RX6 36 6 12 (.array .long) true := ⟨_, _, _, rfl, by decide, hw_in 793 (by decide +kernel) rfl, by decide +kernel, rfl, (fun _ => rfl)⟩
theorem fr_X6_39 : hw_FR RX6 39 6 13 := ⟨_, _, _, rfl, by decide, hw_in 794 (by decide +kernel) rfl⟩
theorem fl_X6_39 : hw_FL RX6 39 6 13 (.array .long) true := ⟨_, _, _, rfl, by decide, hw_in 794 (by decide +kernel) rfl, by decide +kernel, rfl, (fun _ => rfl)⟩
theorem fr_X6_181 : hw_FR RX6 181 6 14 := ⟨_, _, _, rfl, by decide, hw_in 795 (by decide +kernel) rfl⟩
theorem fl_X6_181 : hw_FL RX6 181 6 14 .int false := ⟨_, _, _, rfl, by decide, hw_in 795 (by decide +kernel) rfl, by decide +kernel, rfl, (fun h => by cases h)⟩
theorem fr_X6_42 : hw_FR RX6 42 6 15 := ⟨_, _, _, rfl, by decide, hw_in 796 (by decide +kernel) rfl⟩
theorem fl_X6_42 : hw_FL RX6 42 6 15 (.array .int) true := ⟨_, _, _, rfl, by decide, hw_in 796 (by decide +kernel) rfl, by decide +kernel, rfl, (fun _ => rfl)⟩
theorem fr_X6_45 : hw_FR RX6 45 6 16 := ⟨_, _, _, rfl, by decide, hw_in 797 (by decide +kernel) rfl⟩
theorem fl_X6_45 : hw_FL RX6 45 6 16 (.array .int) true := ⟨_, _, _, rfl, by decide, hw_in 797 (by decide +kernel) rfl, by decide +kernel, rfl, (fun _ => rfl)⟩
theorem fr_X6_48 : hw_FR RX6 48 6 17 := ⟨_, _, _, rfl, by decide, hw_in 798 (by decide +kernel) rfl⟩
theorem fl_X6_48 : hw_FL RX6 48 6 17 (.array .int) true := ⟨_, _, _, rfl, by decide, hw_in 798 (by decide +kernel) rfl, by decide +kernel, rfl, (fun _ => rfl)⟩
theorem fr_X6_51 : hw_FR RX6 51 6 18 := ⟨_, _, _, rfl, by decide, hw_in 799 (by decide +kernel) rfl⟩
theorem fl_X6_51 : hw_FL RX6 51 6 18 (.array .int) true := ⟨_, _, _, rfl, by decide, hw_in 799 (by decide +kernel) rfl, by decide +kernel, rfl, (fun _ => rfl)⟩
theorem fr_X6_54 : hw_FR RX6 54 6 19 := ⟨_, _, _, rfl, by decide, hw_in 800 (by decide +kernel) rfl⟩
theorem fl_X6_54 : hw_FL RX6 54 6 19 (.array .int) true := ⟨_, _, _, rfl, by decide, hw_in 800 (by decide +kernel) rfl, by decide +kernel, rfl, (fun _ => rfl)⟩
theorem fr_X6_57 : hw_FR RX6 57 6 20 := ⟨_, _, _, rfl, by decide, hw_in 801 (by decide +kernel) rfl⟩
theorem fl_X6_57 : hw_FL RX6 57 6 20 (.array .int) true := ⟨_, _, _, rfl, by decide, hw_in 801 (by decide +kernel) rfl, by decide +kernel, rfl, (fun _ => rfl)⟩
theorem fr_X6_60 : hw_FR RX6 60 6 21 := ⟨_, _, _, rfl, by decide, hw_in 802 (by decide +kernel) rfl⟩
theorem fl_X6_60 : hw_FL RX6 60 6 21 (.array .int) true := ⟨_, _, _, rfl, by decide, hw_in 802 (by decide +kernel) rfl, by decide +kernel, rfl, (fun _ => rfl)⟩
theorem fr_X6_63 : hw_FR RX6 63 6 22 := ⟨_, _, _, rfl, by decide, hw_in 803 (by decide +kernel) rfl⟩
theorem fl_X6_63 : hw_FL RX6 63 6 22 (.array .int) true := ⟨_, _, _, rfl, by decide, hw_in 803 (by decide +kernel) rfl, by decide +kernel, rfl, (fun _ => rfl)⟩
theorem fr_X6_66 : hw_FR RX6 66 6 23 := ⟨_, _, _, rfl, by decide, hw_in 804 (by decide +kernel) rfl⟩
theorem fl_X6_66 : hw_FL RX6 66 6 23 (.array .int) true := ⟨_, _, _, rfl, by decide, hw_in 804 (by decide +kernel) rfl, by decide +kernel, rfl, (fun _ => rfl)⟩
theorem fr_X6_69 : hw_FR RX6 69 6 24 := ⟨_, _, _, rfl, by decide, hw_in 805 (by decide +kernel) rfl⟩
theorem fl_X6_69 : hw_FL RX6 69 6 24 (.array .int) true := ⟨_, _, _, rfl, by decide, hw_in 805 (by decide +kernel) rfl, by decide +kernel, rfl, (fun _ => rfl)⟩
theorem fr_X6_200 : hw_FR RX6 200 6 25 := ⟨_, _, _, rfl, by decide, hw_in 806 (by decide +kernel) rfl⟩
theorem fl_X6_200 : hw_FL RX6 200 6 25 .int false := ⟨_, _, _, rfl, by decide, hw_in 806 (by decide +kernel) rfl, by decide +kernel, rfl, (fun h => by cases h)⟩
theorem fr_X6_72 : hw_FR RX6 72 6 26 := ⟨_, _, _, rfl, by decide, hw_in 807 (by decide +kernel) rfl⟩
theorem fl_X6_72 : hw_FL RX6 72 6 26 (.array .int) true := ⟨_, _, _, rfl, by decide, hw_in 807 (by decide +kernel) rfl, by decide +kernel, rfl, (fun _ => rfl)⟩
theorem fr_X6_75 : hw_FR RX6 75 6 27 := ⟨_, _, _, rfl, by decide, hw_in 808 (by decide +kernel) rfl⟩
theorem fl_X6_75 : hw_FL RX6 75 6 27 (.array .int) true := ⟨_, _, _, rfl, by decide, hw_in 808 (by decide +kernel) rfl, by decide +kernel, rfl, (fun _ => rfl)⟩
theorem fr_X6_78 : hw_FR RX6 78 6 28 := ⟨_, _, _, rfl, by decide, hw_in 809 (by decide +kernel) rfl⟩
theorem fl_X6_78 : hw_FL RX6 78 6 28 (.array .int) true := ⟨_, _, _, rfl, by decide, hw_in 809 (by decide +kernel) rfl, by decide +kernel, rfl, (fun _ => rfl)⟩
theorem fr_X6_81 : hw_FR RX6 81 6 29 := ⟨_, _, _, rfl, by decide, hw_in 810 (by decide +kernel) rfl⟩
theorem fl_X6_81 : hw_FL RX6 81 6 29 (.array .int) true := ⟨_, _, _, rfl, by decide, hw_in 810 (by decide +kernel) rfl, by decide +kernel, rfl, (fun _ => rfl)⟩
theorem fr_X6_84 : hw_FR RX6 84 6 30 := ⟨_, _, _, rfl, by decide, hw_in 811 (by decide +kernel) rfl⟩
theorem fl_X6_84 : hw_FL RX6 84 6 30 (.array .boolean) true := ⟨_, _, _, rfl, by decide, hw_in 811 (by decide +kernel) rfl, by decide +kernel, rfl, (fun _ => rfl)⟩
theorem fr_X6_88 : hw_FR RX6 88 6 31 := ⟨_, _, _, rfl, by decide, hw_in 812 (by decide +kernel) rfl⟩
theorem fl_X6_88 : hw_FL RX6 88 6 31 (.array .int) true := ⟨_, _, _, rfl, by decide, hw_in 812 (by decide +kernel) rfl, by decide +kernel, rfl, (fun _ => rfl)⟩
theorem fr_X6_91 : hw_FR RX6 91 6 32 := ⟨_, _, _, rfl, by decide, hw_in 813 (by decide +kernel) rfl⟩
theorem fl_X6_91 : hw_FL RX6 91 6 32 (.array .int) true := ⟨_, _, _, rfl, by decide, hw_in 813 (by decide +kernel) rfl, by decide +kernel, rfl, (fun _ => rfl)⟩
theorem fr_X6_94 : hw_FR RX6 94 6 33 := ⟨_, _, _, rfl, by decide, hw_in 814 (by decide +kernel) rfl⟩
theorem fl_X6_94 : hw_FL RX6 94 6 33 (.array .boolean) true := ⟨_, _, _, rfl, by decide, hw_in 814 (by decide +kernel) rfl, by decide +kernel, rfl, (fun _ => rfl)⟩
theorem fr_X6_97 : hw_FR RX6 97 6 34 := ⟨_, _, _, rfl, by decide, hw_in 815 (by decide +kernel) rfl⟩
theorem fl_X6_97 : hw_FL RX6 97 6 34 (.array .long) true := ⟨_, _, _, rfl, by decide, hw_in 815 (by decide +kernel) rfl, by decide +kernel, rfl, (fun _ => rfl)⟩
theorem fr_X6_100 : hw_FR RX6 100 6 35 := ⟨_, _, _, rfl, by decide, hw_in 816 (by decide +kernel) rfl⟩
theorem fl_X6_100 : hw_FL RX6 100 6 35 (.array .long) true := ⟨_, _, _, rfl, by decide, hw_in 816 (by decide +kernel) rfl, by decide +kernel, rfl, (fun _ => rfl)⟩
theorem fr_X6_103 : hw_FR RX6 103 6 36 := ⟨_, _, _, rfl, by decide, hw_in 817 (by decide +kernel) rfl⟩
theorem fl_X6_103 : hw_FL RX6 103 6 36 (.array .int) true := ⟨_, _, _, rfl, by decide, hw_in 817 (by decide +kernel) rfl, by decide +kernel, rfl, (fun _ => rfl)⟩
theorem fr_X6_106 : hw_FR RX6 106 6 37 := ⟨_, _, _, rfl, by decide, hw_in 818 (by decide +kernel) rfl⟩
theorem fl_X6_106 : hw_FL RX6 106 6 37 (.array .int) true := ⟨_, _, _, rfl, by decide, hw_in 818 (by decide +kernel) rfl, by decide +kernel, rfl, (fun _ => rfl)⟩
theorem wc_X6_143 : Cond.constantLong RX6 143 1000 ∈ hw_TB := hw_in 975 (by decide +kernel) rfl
theorem wc_X6_147 : Cond.constantLong RX6 147 1000000000000 ∈ hw_TB := hw_in 976 (by decide +kernel) rfl
theorem wc_X6_145 : Cond.constantLong RX6 145 2 ∈ hw_TB := hw_in 985 (by decide +kernel) rfl
abbrev rX5_init : Room := { frames := 2, cells := 0, slots := 0, locals := 38 }
abbrev wX5_init : Cond := .code yX5_init cX5_init 2 none
theorem wi_X5_init : hw_WI yX5_init wX5_init 0 := ⟨⟨hw_in 76 (by decide +kernel) rfl, hw_in 75 (by decide +kernel) rfl, hw_in 58 (by decide +kernel) rfl⟩, by decide +kernel⟩
abbrev rX5_broker : Room := { frames := 7, cells := 4, slots := 24, locals := 104 }
abbrev wX5_broker : Cond := .code yX5_broker cX5_broker 5 (some .int)
theorem wv_X5_broker : hw_WV RX5 yX5_broker wX5_broker 3 := ⟨⟨hw_in 340 (by decide +kernel) rfl, hw_in 338 (by decide +kernel) rfl, hw_in 339 (by decide +kernel) rfl, hw_in 58 (by decide +kernel) rfl⟩, by decide +kernel⟩
abbrev rX5_rate : Room := { frames := 7, cells := 2, slots := 12, locals := 104 }
abbrev wX5_rate : Cond := .code yX5_rate cX5_rate 4 (some .int)
theorem wv_X5_rate : hw_WV RX5 yX5_rate wX5_rate 2 := ⟨⟨hw_in 456 (by decide +kernel) rfl, hw_in 454 (by decide +kernel) rfl, hw_in 455 (by decide +kernel) rfl, hw_in 58 (by decide +kernel) rfl⟩, by decide +kernel⟩
abbrev rX5_trust : Room := { frames := 8, cells := 4, slots := 24, locals := 125 }
abbrev wX5_trust : Cond := .code yX5_trust cX5_trust 5 none
theorem wv_X5_trust : hw_WV RX5 yX5_trust wX5_trust 4 := ⟨⟨hw_in 463 (by decide +kernel) rfl, hw_in 461 (by decide +kernel) rfl, hw_in 462 (by decide +kernel) rfl, hw_in 58 (by decide +kernel) rfl⟩, by decide +kernel⟩
abbrev rX5_festival : Room := { frames := 0, cells := 0, slots := 0, locals := 0 }
abbrev wX5_festival : Cond := .code yX5_festival cX5_festival 1 (some .boolean)
theorem wv_X5_festival : hw_WV RX5 yX5_festival wX5_festival 0 := ⟨⟨hw_in 299 (by decide +kernel) rfl, hw_in 297 (by decide +kernel) rfl, hw_in 298 (by decide +kernel) rfl, hw_in 58 (by decide +kernel) rfl⟩, by decide +kernel⟩
abbrev rX5_breakWord : Room := { frames := 7, cells := 2, slots := 12, locals := 161 }
abbrev wX5_breakWord : Cond := .code yX5_breakWord cX5_breakWord 3 (some .int)
theorem wv_X5_breakWord : hw_WV RX5 yX5_breakWord wX5_breakWord 1 := ⟨⟨hw_in 475 (by decide +kernel) rfl, hw_in 473 (by decide +kernel) rfl, hw_in 474 (by decide +kernel) rfl, hw_in 58 (by decide +kernel) rfl⟩, by decide +kernel⟩
abbrev rX5_raid : Room := { frames := 7, cells := 2, slots := 12, locals := 161 }
abbrev wX5_raid : Cond := .code yX5_raid cX5_raid 5 (some .int)
theorem wv_X5_raid : hw_WV RX5 yX5_raid wX5_raid 1 := ⟨⟨hw_in 580 (by decide +kernel) rfl, hw_in 578 (by decide +kernel) rfl, hw_in 579 (by decide +kernel) rfl, hw_in 58 (by decide +kernel) rfl⟩, by decide +kernel⟩
abbrev rX5_order : Room := { frames := 8, cells := 9, slots := 54, locals := 138 }
abbrev wX5_order : Cond := .code yX5_order cX5_order 7 (some .int)
theorem wv_X5_order : hw_WV RX5 yX5_order wX5_order 5 := ⟨⟨hw_in 588 (by decide +kernel) rfl, hw_in 586 (by decide +kernel) rfl, hw_in 587 (by decide +kernel) rfl, hw_in 58 (by decide +kernel) rfl⟩, by decide +kernel⟩
abbrev rX5_fetch : Room := { frames := 7, cells := 4, slots := 24, locals := 104 }
abbrev wX5_fetch : Cond := .code yX5_fetch cX5_fetch 5 (some .int)
theorem wv_X5_fetch : hw_WV RX5 yX5_fetch wX5_fetch 2 := ⟨⟨hw_in 607 (by decide +kernel) rfl, hw_in 605 (by decide +kernel) rfl, hw_in 606 (by decide +kernel) rfl, hw_in 58 (by decide +kernel) rfl⟩, by decide +kernel⟩
abbrev rX5_pass : Room := { frames := 7, cells := 1, slots := 6, locals := 112 }
abbrev wX5_pass : Cond := .code yX5_pass cX5_pass 3 (some .int)
theorem wv_X5_pass : hw_WV RX5 yX5_pass wX5_pass 1 := ⟨⟨hw_in 618 (by decide +kernel) rfl, hw_in 616 (by decide +kernel) rfl, hw_in 617 (by decide +kernel) rfl, hw_in 58 (by decide +kernel) rfl⟩, by decide +kernel⟩
abbrev rX5_pay : Room := { frames := 8, cells := 7, slots := 42, locals := 125 }
abbrev wX5_pay : Cond := .code yX5_pay cX5_pay 4 (some .int)
theorem wv_X5_pay : hw_WV RX5 yX5_pay wX5_pay 3 := ⟨⟨hw_in 653 (by decide +kernel) rfl, hw_in 651 (by decide +kernel) rfl, hw_in 652 (by decide +kernel) rfl, hw_in 58 (by decide +kernel) rfl⟩, by decide +kernel⟩
abbrev rX5_deliver : Room := { frames := 8, cells := 6, slots := 36, locals := 125 }
abbrev wX5_deliver : Cond := .code yX5_deliver cX5_deliver 4 (some .int)
theorem wv_X5_deliver : hw_WV RX5 yX5_deliver wX5_deliver 3 := ⟨⟨hw_in 660 (by decide +kernel) rfl, hw_in 658 (by decide +kernel) rfl, hw_in 659 (by decide +kernel) rfl, hw_in 58 (by decide +kernel) rfl⟩, by decide +kernel⟩
abbrev rX5_courier : Room := { frames := 8, cells := 7, slots := 42, locals := 125 }
abbrev wX5_courier : Cond := .code yX5_courier cX5_courier 6 (some .int)
theorem wv_X5_courier : hw_WV RX5 yX5_courier wX5_courier 4 := ⟨⟨hw_in 667 (by decide +kernel) rfl, hw_in 665 (by decide +kernel) rfl, hw_in 666 (by decide +kernel) rfl, hw_in 58 (by decide +kernel) rfl⟩, by decide +kernel⟩
abbrev rX5_rob : Room := { frames := 7, cells := 2, slots := 12, locals := 103 }
abbrev wX5_rob : Cond := .code yX5_rob cX5_rob 2 (some .int)
theorem wv_X5_rob : hw_WV RX5 yX5_rob wX5_rob 1 := ⟨⟨hw_in 674 (by decide +kernel) rfl, hw_in 672 (by decide +kernel) rfl, hw_in 673 (by decide +kernel) rfl, hw_in 58 (by decide +kernel) rfl⟩, by decide +kernel⟩
abbrev rX5_ring : Room := { frames := 3, cells := 0, slots := 0, locals := 73 }
abbrev wX5_ring : Cond := .code yX5_ring cX5_ring 6 (some .long)
theorem wv_X5_ring : hw_WV RX5 yX5_ring wX5_ring 0 := ⟨⟨hw_in 303 (by decide +kernel) rfl, hw_in 301 (by decide +kernel) rfl, hw_in 302 (by decide +kernel) rfl, hw_in 58 (by decide +kernel) rfl⟩, by decide +kernel⟩
abbrev rX5_law : Room := { frames := 7, cells := 2, slots := 12, locals := 104 }
abbrev wX5_law : Cond := .code yX5_law cX5_law 3 (some .int)
theorem wv_X5_law : hw_WV RX5 yX5_law wX5_law 2 := ⟨⟨hw_in 681 (by decide +kernel) rfl, hw_in 679 (by decide +kernel) rfl, hw_in 680 (by decide +kernel) rfl, hw_in 58 (by decide +kernel) rfl⟩, by decide +kernel⟩
abbrev rX5_list : Room := { frames := 7, cells := 1, slots := 6, locals := 103 }
abbrev wX5_list : Cond := .code yX5_list cX5_list 2 (some .boolean)
theorem wv_X5_list : hw_WV RX5 yX5_list wX5_list 1 := ⟨⟨hw_in 688 (by decide +kernel) rfl, hw_in 686 (by decide +kernel) rfl, hw_in 687 (by decide +kernel) rfl, hw_in 58 (by decide +kernel) rfl⟩, by decide +kernel⟩
abbrev rX5_brokerOf : Room := { frames := 7, cells := 2, slots := 12, locals := 104 }
abbrev wX5_brokerOf : Cond := .code yX5_brokerOf cX5_brokerOf 3 (some .long)
theorem wv_X5_brokerOf : hw_WV RX5 yX5_brokerOf wX5_brokerOf 2 := ⟨⟨hw_in 695 (by decide +kernel) rfl, hw_in 693 (by decide +kernel) rfl, hw_in 694 (by decide +kernel) rfl, hw_in 58 (by decide +kernel) rfl⟩, by decide +kernel⟩
abbrev rX5_debt : Room := { frames := 7, cells := 2, slots := 12, locals := 103 }
abbrev wX5_debt : Cond := .code yX5_debt cX5_debt 4 (some .long)
theorem wv_X5_debt : hw_WV RX5 yX5_debt wX5_debt 3 := ⟨⟨hw_in 706 (by decide +kernel) rfl, hw_in 704 (by decide +kernel) rfl, hw_in 705 (by decide +kernel) rfl, hw_in 58 (by decide +kernel) rfl⟩, by decide +kernel⟩
abbrev rX5_agree : Room := { frames := 7, cells := 2, slots := 12, locals := 103 }
abbrev wX5_agree : Cond := .code yX5_agree cX5_agree 3 (some .boolean)
theorem wv_X5_agree : hw_WV RX5 yX5_agree wX5_agree 2 := ⟨⟨hw_in 713 (by decide +kernel) rfl, hw_in 711 (by decide +kernel) rfl, hw_in 712 (by decide +kernel) rfl, hw_in 58 (by decide +kernel) rfl⟩, by decide +kernel⟩
abbrev rX5_way : Room := { frames := 8, cells := 5, slots := 30, locals := 138 }
abbrev wX5_way : Cond := .code yX5_way cX5_way 5 (some .int)
theorem wv_X5_way : hw_WV RX5 yX5_way wX5_way 4 := ⟨⟨hw_in 720 (by decide +kernel) rfl, hw_in 718 (by decide +kernel) rfl, hw_in 719 (by decide +kernel) rfl, hw_in 58 (by decide +kernel) rfl⟩, by decide +kernel⟩
abbrev rX5_wayOf : Room := { frames := 7, cells := 2, slots := 12, locals := 103 }
abbrev wX5_wayOf : Cond := .code yX5_wayOf cX5_wayOf 3 (some .int)
theorem wv_X5_wayOf : hw_WV RX5 yX5_wayOf wX5_wayOf 2 := ⟨⟨hw_in 731 (by decide +kernel) rfl, hw_in 729 (by decide +kernel) rfl, hw_in 730 (by decide +kernel) rfl, hw_in 58 (by decide +kernel) rfl⟩, by decide +kernel⟩
abbrev rX5_orderOf : Room := { frames := 7, cells := 2, slots := 12, locals := 104 }
abbrev wX5_orderOf : Cond := .code yX5_orderOf cX5_orderOf 4 (some .int)
theorem wv_X5_orderOf : hw_WV RX5 yX5_orderOf wX5_orderOf 2 := ⟨⟨hw_in 742 (by decide +kernel) rfl, hw_in 740 (by decide +kernel) rfl, hw_in 741 (by decide +kernel) rfl, hw_in 58 (by decide +kernel) rfl⟩, by decide +kernel⟩
abbrev rX5_inquiry : Room := { frames := 1, cells := 0, slots := 0, locals := 23 }
abbrev wX5_inquiry : Cond := .code yX5_inquiry cX5_inquiry 4 (some .int)
theorem wv_X5_inquiry : hw_WV RX5 yX5_inquiry wX5_inquiry 0 := ⟨⟨hw_in 326 (by decide +kernel) rfl, hw_in 324 (by decide +kernel) rfl, hw_in 325 (by decide +kernel) rfl, hw_in 58 (by decide +kernel) rfl⟩, by decide +kernel⟩
abbrev rX5_sum : Room := { frames := 7, cells := 1, slots := 6, locals := 104 }
abbrev wX5_sum : Cond := .code yX5_sum cX5_sum 2 (some .long)
theorem wv_X5_sum : hw_WV RX5 yX5_sum wX5_sum 1 := ⟨⟨hw_in 749 (by decide +kernel) rfl, hw_in 747 (by decide +kernel) rfl, hw_in 748 (by decide +kernel) rfl, hw_in 58 (by decide +kernel) rfl⟩, by decide +kernel⟩
abbrev rX5_requireIndex : Room := { frames := 6, cells := 1, slots := 6, locals := 82 }
abbrev wX5_requireIndex : Cond := .code yX5_requireIndex cX5_requireIndex 2 none
theorem ws_X5_requireIndex : hw_WS yX5_requireIndex wX5_requireIndex 2 := ⟨⟨hw_in 343 (by decide +kernel) rfl, hw_in 342 (by decide +kernel) rfl, hw_in 58 (by decide +kernel) rfl⟩, by decide +kernel⟩
abbrev rX5_requirePlace : Room := { frames := 6, cells := 1, slots := 6, locals := 82 }
abbrev wX5_requirePlace : Cond := .code yX5_requirePlace cX5_requirePlace 1 none
theorem ws_X5_requirePlace : hw_WS yX5_requirePlace wX5_requirePlace 1 := ⟨⟨hw_in 723 (by decide +kernel) rfl, hw_in 722 (by decide +kernel) rfl, hw_in 58 (by decide +kernel) rfl⟩, by decide +kernel⟩
abbrev rX5_requireRange : Room := { frames := 6, cells := 1, slots := 6, locals := 82 }
abbrev wX5_requireRange : Cond := .code yX5_requireRange cX5_requireRange 3 none
theorem ws_X5_requireRange : hw_WS yX5_requireRange wX5_requireRange 3 := ⟨⟨hw_in 414 (by decide +kernel) rfl, hw_in 413 (by decide +kernel) rfl, hw_in 58 (by decide +kernel) rfl⟩, by decide +kernel⟩
abbrev rX5_requireState : Room := { frames := 6, cells := 1, slots := 6, locals := 82 }
abbrev wX5_requireState : Cond := .code yX5_requireState cX5_requireState 1 none
theorem ws_X5_requireState : hw_WS yX5_requireState wX5_requireState 1 := ⟨⟨hw_in 433 (by decide +kernel) rfl, hw_in 432 (by decide +kernel) rfl, hw_in 58 (by decide +kernel) rfl⟩, by decide +kernel⟩
abbrev rX5_requireTwoBrokers : Room := { frames := 7, cells := 3, slots := 18, locals := 103 }
abbrev wX5_requireTwoBrokers : Cond := .code yX5_requireTwoBrokers cX5_requireTwoBrokers 3 none
theorem wv_X5_requireTwoBrokers : hw_WV RX5 yX5_requireTwoBrokers wX5_requireTwoBrokers 2 := ⟨⟨hw_in 467 (by decide +kernel) rfl, hw_in 466 (by decide +kernel) rfl, hw_in 3 (by decide +kernel) rfl, hw_in 58 (by decide +kernel) rfl⟩, by decide +kernel⟩
abbrev rX5_findWay : Room := { frames := 5, cells := 0, slots := 0, locals := 115 }
abbrev wX5_findWay : Cond := .code yX5_findWay cX5_findWay 4 (some .boolean)
theorem wv_X5_findWay : hw_WV RX5 yX5_findWay wX5_findWay 3 := ⟨⟨hw_in 592 (by decide +kernel) rfl, hw_in 591 (by decide +kernel) rfl, hw_in 18 (by decide +kernel) rfl, hw_in 58 (by decide +kernel) rfl⟩, by decide +kernel⟩
abbrev rX5_letArise : Room := { frames := 1, cells := 0, slots := 0, locals := 24 }
abbrev wX5_letArise : Cond := .code yX5_letArise cX5_letArise 5 none
theorem wv_X5_letArise : hw_WV RX5 yX5_letArise wX5_letArise 1 := ⟨⟨hw_in 569 (by decide +kernel) rfl, hw_in 568 (by decide +kernel) rfl, hw_in 16 (by decide +kernel) rfl, hw_in 58 (by decide +kernel) rfl⟩, by decide +kernel⟩
abbrev rX5_takeBack : Room := { frames := 1, cells := 0, slots := 0, locals := 24 }
abbrev wX5_takeBack : Cond := .code yX5_takeBack cX5_takeBack 7 none
theorem wv_X5_takeBack : hw_WV RX5 yX5_takeBack wX5_takeBack 3 := ⟨⟨hw_in 487 (by decide +kernel) rfl, hw_in 486 (by decide +kernel) rfl, hw_in 5 (by decide +kernel) rfl, hw_in 58 (by decide +kernel) rfl⟩, by decide +kernel⟩
abbrev rX5_goBack : Room := { frames := 2, cells := 0, slots := 0, locals := 50 }
abbrev wX5_goBack : Cond := .code yX5_goBack cX5_goBack 2 none
theorem wv_X5_goBack : hw_WV RX5 yX5_goBack wX5_goBack 1 := ⟨⟨hw_in 611 (by decide +kernel) rfl, hw_in 610 (by decide +kernel) rfl, hw_in 20 (by decide +kernel) rfl, hw_in 58 (by decide +kernel) rfl⟩, by decide +kernel⟩
abbrev rX5_endForward : Room := { frames := 1, cells := 0, slots := 0, locals := 20 }
abbrev wX5_endForward : Cond := .code yX5_endForward cX5_endForward 2 none
theorem wv_X5_endForward : hw_WV RX5 yX5_endForward wX5_endForward 1 := ⟨⟨hw_in 573 (by decide +kernel) rfl, hw_in 572 (by decide +kernel) rfl, hw_in 17 (by decide +kernel) rfl, hw_in 58 (by decide +kernel) rfl⟩, by decide +kernel⟩
abbrev rX5_loseOrdersFrom : Room := { frames := 2, cells := 0, slots := 0, locals := 50 }
abbrev wX5_loseOrdersFrom : Cond := .code yX5_loseOrdersFrom cX5_loseOrdersFrom 5 (some .int)
theorem wv_X5_loseOrdersFrom : hw_WV RX5 yX5_loseOrdersFrom wX5_loseOrdersFrom 1 := ⟨⟨hw_in 479 (by decide +kernel) rfl, hw_in 478 (by decide +kernel) rfl, hw_in 4 (by decide +kernel) rfl, hw_in 58 (by decide +kernel) rfl⟩, by decide +kernel⟩
abbrev rX5_avoid : Room := { frames := 6, cells := 0, slots := 0, locals := 139 }
abbrev wX5_avoid : Cond := .code yX5_avoid cX5_avoid 3 none
theorem wv_X5_avoid : hw_WV RX5 yX5_avoid wX5_avoid 1 := ⟨⟨hw_in 493 (by decide +kernel) rfl, hw_in 492 (by decide +kernel) rfl, hw_in 6 (by decide +kernel) rfl, hw_in 58 (by decide +kernel) rfl⟩, by decide +kernel⟩
abbrev rX5_lookAnew : Room := { frames := 5, cells := 0, slots := 0, locals := 115 }
abbrev wX5_lookAnew : Cond := .code yX5_lookAnew cX5_lookAnew 5 none
theorem wv_X5_lookAnew : hw_WV RX5 yX5_lookAnew wX5_lookAnew 1 := ⟨⟨hw_in 501 (by decide +kernel) rfl, hw_in 500 (by decide +kernel) rfl, hw_in 7 (by decide +kernel) rfl, hw_in 58 (by decide +kernel) rfl⟩, by decide +kernel⟩
abbrev rX5_tellTown : Room := { frames := 0, cells := 0, slots := 0, locals := 0 }
abbrev wX5_tellTown : Cond := .code yX5_tellTown cX5_tellTown 3 none
theorem wv_X5_tellTown : hw_WV RX5 yX5_tellTown wX5_tellTown 2 := ⟨⟨hw_in 600 (by decide +kernel) rfl, hw_in 599 (by decide +kernel) rfl, hw_in 19 (by decide +kernel) rfl, hw_in 58 (by decide +kernel) rfl⟩, by decide +kernel⟩
abbrev rX5_passHour : Room := { frames := 4, cells := 0, slots := 0, locals := 92 }
abbrev wX5_passHour : Cond := .code yX5_passHour cX5_passHour 1 none
theorem wv_X5_passHour : hw_WV RX5 yX5_passHour wX5_passHour 0 := ⟨⟨hw_in 622 (by decide +kernel) rfl, hw_in 621 (by decide +kernel) rfl, hw_in 21 (by decide +kernel) rfl, hw_in 58 (by decide +kernel) rfl⟩, by decide +kernel⟩
abbrev rX5_endRaids : Room := { frames := 0, cells := 0, slots := 0, locals := 0 }
abbrev wX5_endRaids : Cond := .code yX5_endRaids cX5_endRaids 2 none
theorem wv_X5_endRaids : hw_WV RX5 yX5_endRaids wX5_endRaids 0 := ⟨⟨hw_in 626 (by decide +kernel) rfl, hw_in 625 (by decide +kernel) rfl, hw_in 22 (by decide +kernel) rfl, hw_in 58 (by decide +kernel) rfl⟩, by decide +kernel⟩
abbrev rX5_moveMessages : Room := { frames := 1, cells := 0, slots := 0, locals := 24 }
abbrev wX5_moveMessages : Cond := .code yX5_moveMessages cX5_moveMessages 5 none
theorem wv_X5_moveMessages : hw_WV RX5 yX5_moveMessages wX5_moveMessages 0 := ⟨⟨hw_in 630 (by decide +kernel) rfl, hw_in 629 (by decide +kernel) rfl, hw_in 23 (by decide +kernel) rfl, hw_in 58 (by decide +kernel) rfl⟩, by decide +kernel⟩
abbrev rX5_sendBackOld : Room := { frames := 3, cells := 0, slots := 0, locals := 71 }
abbrev wX5_sendBackOld : Cond := .code yX5_sendBackOld cX5_sendBackOld 2 none
theorem wv_X5_sendBackOld : hw_WV RX5 yX5_sendBackOld wX5_sendBackOld 0 := ⟨⟨hw_in 634 (by decide +kernel) rfl, hw_in 633 (by decide +kernel) rfl, hw_in 24 (by decide +kernel) rfl, hw_in 58 (by decide +kernel) rfl⟩, by decide +kernel⟩
abbrev rX5_giveBack : Room := { frames := 1, cells := 0, slots := 0, locals := 20 }
abbrev wX5_giveBack : Cond := .code yX5_giveBack cX5_giveBack 4 none
theorem wv_X5_giveBack : hw_WV RX5 yX5_giveBack wX5_giveBack 0 := ⟨⟨hw_in 642 (by decide +kernel) rfl, hw_in 641 (by decide +kernel) rfl, hw_in 25 (by decide +kernel) rfl, hw_in 58 (by decide +kernel) rfl⟩, by decide +kernel⟩
abbrev rX5_receiveCouriers : Room := { frames := 2, cells := 0, slots := 0, locals := 48 }
abbrev wX5_receiveCouriers : Cond := .code yX5_receiveCouriers cX5_receiveCouriers 3 none
theorem wv_X5_receiveCouriers : hw_WV RX5 yX5_receiveCouriers wX5_receiveCouriers 0 := ⟨⟨hw_in 646 (by decide +kernel) rfl, hw_in 645 (by decide +kernel) rfl, hw_in 26 (by decide +kernel) rfl, hw_in 58 (by decide +kernel) rfl⟩, by decide +kernel⟩
abbrev rX5_clearRing : Room := { frames := 2, cells := 0, slots := 0, locals := 48 }
abbrev wX5_clearRing : Cond := .code yX5_clearRing cX5_clearRing 6 (some .long)
theorem wv_X5_clearRing : hw_WV RX5 yX5_clearRing wX5_clearRing 3 := ⟨⟨hw_in 307 (by decide +kernel) rfl, hw_in 306 (by decide +kernel) rfl, hw_in 0 (by decide +kernel) rfl, hw_in 58 (by decide +kernel) rfl⟩, by decide +kernel⟩
abbrev rX5_worthOf : Room := { frames := 0, cells := 0, slots := 0, locals := 0 }
abbrev wX5_worthOf : Cond := .code yX5_worthOf cX5_worthOf 5 (some .long)
theorem wv_X5_worthOf : hw_WV RX5 yX5_worthOf wX5_worthOf 1 := ⟨⟨hw_in 699 (by decide +kernel) rfl, hw_in 698 (by decide +kernel) rfl, hw_in 27 (by decide +kernel) rfl, hw_in 58 (by decide +kernel) rfl⟩, by decide +kernel⟩
abbrev rX5_namedByBook : Room := { frames := 0, cells := 0, slots := 0, locals := 0 }
abbrev wX5_namedByBook : Cond := .code yX5_namedByBook cX5_namedByBook 4 (some .int)
theorem wv_X5_namedByBook : hw_WV RX5 yX5_namedByBook wX5_namedByBook 1 := ⟨⟨hw_in 330 (by decide +kernel) rfl, hw_in 329 (by decide +kernel) rfl, hw_in 1 (by decide +kernel) rfl, hw_in 58 (by decide +kernel) rfl⟩, by decide +kernel⟩
abbrev rX5_sumGiven : Room := { frames := 0, cells := 0, slots := 0, locals := 0 }
abbrev wX5_sumGiven : Cond := .code yX5_sumGiven cX5_sumGiven 4 (some .long)
theorem wv_X5_sumGiven : hw_WV RX5 yX5_sumGiven wX5_sumGiven 0 := ⟨⟨hw_in 753 (by decide +kernel) rfl, hw_in 752 (by decide +kernel) rfl, hw_in 28 (by decide +kernel) rfl, hw_in 58 (by decide +kernel) rfl⟩, by decide +kernel⟩
abbrev rX5_sumGivenIn : Room := { frames := 0, cells := 0, slots := 0, locals := 0 }
abbrev wX5_sumGivenIn : Cond := .code yX5_sumGivenIn cX5_sumGivenIn 5 (some .long)
theorem wv_X5_sumGivenIn : hw_WV RX5 yX5_sumGivenIn wX5_sumGivenIn 1 := ⟨⟨hw_in 761 (by decide +kernel) rfl, hw_in 760 (by decide +kernel) rfl, hw_in 30 (by decide +kernel) rfl, hw_in 58 (by decide +kernel) rfl⟩, by decide +kernel⟩
abbrev rX5_sumPaidOut : Room := { frames := 0, cells := 0, slots := 0, locals := 0 }
abbrev wX5_sumPaidOut : Cond := .code yX5_sumPaidOut cX5_sumPaidOut 4 (some .long)
theorem wv_X5_sumPaidOut : hw_WV RX5 yX5_sumPaidOut wX5_sumPaidOut 0 := ⟨⟨hw_in 757 (by decide +kernel) rfl, hw_in 756 (by decide +kernel) rfl, hw_in 29 (by decide +kernel) rfl, hw_in 58 (by decide +kernel) rfl⟩, by decide +kernel⟩
abbrev rX5_sumRobbed : Room := { frames := 0, cells := 0, slots := 0, locals := 0 }
abbrev wX5_sumRobbed : Cond := .code yX5_sumRobbed cX5_sumRobbed 4 (some .long)
theorem wv_X5_sumRobbed : hw_WV RX5 yX5_sumRobbed wX5_sumRobbed 0 := ⟨⟨hw_in 765 (by decide +kernel) rfl, hw_in 764 (by decide +kernel) rfl, hw_in 31 (by decide +kernel) rfl, hw_in 58 (by decide +kernel) rfl⟩, by decide +kernel⟩
abbrev rX5_sumOnRoad : Room := { frames := 0, cells := 0, slots := 0, locals := 0 }
abbrev wX5_sumOnRoad : Cond := .code yX5_sumOnRoad cX5_sumOnRoad 4 (some .long)
theorem wv_X5_sumOnRoad : hw_WV RX5 yX5_sumOnRoad wX5_sumOnRoad 0 := ⟨⟨hw_in 769 (by decide +kernel) rfl, hw_in 768 (by decide +kernel) rfl, hw_in 32 (by decide +kernel) rfl, hw_in 58 (by decide +kernel) rfl⟩, by decide +kernel⟩
abbrev rX5_sumCash : Room := { frames := 0, cells := 0, slots := 0, locals := 0 }
abbrev wX5_sumCash : Cond := .code yX5_sumCash cX5_sumCash 4 (some .long)
theorem wv_X5_sumCash : hw_WV RX5 yX5_sumCash wX5_sumCash 0 := ⟨⟨hw_in 773 (by decide +kernel) rfl, hw_in 772 (by decide +kernel) rfl, hw_in 33 (by decide +kernel) rfl, hw_in 58 (by decide +kernel) rfl⟩, by decide +kernel⟩
abbrev rX6_init : Room := { frames := 1, cells := 0, slots := 0, locals := 16 }
abbrev wX6_init : Cond := .code yX6_init cX6_init 1 none
theorem wi_X6_init : hw_WI yX6_init wX6_init 0 := ⟨⟨hw_in 778 (by decide +kernel) rfl, hw_in 777 (by decide +kernel) rfl, hw_in 64 (by decide +kernel) rfl⟩, by decide +kernel⟩
abbrev rX6_thrown : Room := { frames := 0, cells := 0, slots := 0, locals := 0 }
abbrev wX6_thrown : Cond := .code yX6_thrown cX6_thrown 1 (some .int)
theorem wv_X6_thrown : hw_WV RX6 yX6_thrown wX6_thrown 0 := ⟨⟨hw_in 899 (by decide +kernel) rfl, hw_in 897 (by decide +kernel) rfl, hw_in 898 (by decide +kernel) rfl, hw_in 64 (by decide +kernel) rfl⟩, by decide +kernel⟩
abbrev rX6_goesWell : Room := { frames := 0, cells := 0, slots := 0, locals := 0 }
abbrev wX6_goesWell : Cond := .code yX6_goesWell cX6_goesWell 2 (some .boolean)
theorem wv_X6_goesWell : hw_WV RX6 yX6_goesWell wX6_goesWell 1 := ⟨⟨hw_in 910 (by decide +kernel) rfl, hw_in 909 (by decide +kernel) rfl, hw_in 34 (by decide +kernel) rfl, hw_in 64 (by decide +kernel) rfl⟩, by decide +kernel⟩
abbrev rX6_in : Room := { frames := 0, cells := 0, slots := 0, locals := 0 }
abbrev wX6_in : Cond := .code yX6_in cX6_in 3 (some .boolean)
theorem ws_X6_in : hw_WS yX6_in wX6_in 3 := ⟨⟨hw_in 906 (by decide +kernel) rfl, hw_in 905 (by decide +kernel) rfl, hw_in 64 (by decide +kernel) rfl⟩, by decide +kernel⟩
abbrev rX6_isBroker : Room := { frames := 1, cells := 0, slots := 0, locals := 22 }
abbrev wX6_isBroker : Cond := .code yX6_isBroker cX6_isBroker 2 (some .boolean)
theorem wv_X6_isBroker : hw_WV RX6 yX6_isBroker wX6_isBroker 1 := ⟨⟨hw_in 918 (by decide +kernel) rfl, hw_in 917 (by decide +kernel) rfl, hw_in 35 (by decide +kernel) rfl, hw_in 64 (by decide +kernel) rfl⟩, by decide +kernel⟩
abbrev rX6_areBrokers : Room := { frames := 2, cells := 0, slots := 0, locals := 43 }
abbrev wX6_areBrokers : Cond := .code yX6_areBrokers cX6_areBrokers 3 (some .boolean)
theorem wv_X6_areBrokers : hw_WV RX6 yX6_areBrokers wX6_areBrokers 2 := ⟨⟨hw_in 926 (by decide +kernel) rfl, hw_in 925 (by decide +kernel) rfl, hw_in 36 (by decide +kernel) rfl, hw_in 64 (by decide +kernel) rfl⟩, by decide +kernel⟩
abbrev rX6_broker : Room := { frames := 1, cells := 0, slots := 0, locals := 22 }
abbrev wX6_broker : Cond := .code yX6_broker cX6_broker 5 (some .int)
theorem wv_X6_broker : hw_WV RX6 yX6_broker wX6_broker 3 := ⟨⟨hw_in 903 (by decide +kernel) rfl, hw_in 901 (by decide +kernel) rfl, hw_in 902 (by decide +kernel) rfl, hw_in 64 (by decide +kernel) rfl⟩, by decide +kernel⟩
abbrev rX6_rate : Room := { frames := 2, cells := 0, slots := 0, locals := 43 }
abbrev wX6_rate : Cond := .code yX6_rate cX6_rate 5 (some .int)
theorem wv_X6_rate : hw_WV RX6 yX6_rate wX6_rate 2 := ⟨⟨hw_in 914 (by decide +kernel) rfl, hw_in 912 (by decide +kernel) rfl, hw_in 913 (by decide +kernel) rfl, hw_in 64 (by decide +kernel) rfl⟩, by decide +kernel⟩
abbrev rX6_trust : Room := { frames := 3, cells := 0, slots := 0, locals := 65 }
abbrev wX6_trust : Cond := .code yX6_trust cX6_trust 6 none
theorem wv_X6_trust : hw_WV RX6 yX6_trust wX6_trust 4 := ⟨⟨hw_in 922 (by decide +kernel) rfl, hw_in 920 (by decide +kernel) rfl, hw_in 921 (by decide +kernel) rfl, hw_in 64 (by decide +kernel) rfl⟩, by decide +kernel⟩
abbrev rX6_festival : Room := { frames := 0, cells := 0, slots := 0, locals := 0 }
abbrev wX6_festival : Cond := .code yX6_festival cX6_festival 1 (some .boolean)
theorem wv_X6_festival : hw_WV RX6 yX6_festival wX6_festival 0 := ⟨⟨hw_in 930 (by decide +kernel) rfl, hw_in 928 (by decide +kernel) rfl, hw_in 929 (by decide +kernel) rfl, hw_in 64 (by decide +kernel) rfl⟩, by decide +kernel⟩
abbrev rX6_owe : Room := { frames := 0, cells := 0, slots := 0, locals := 0 }
abbrev wX6_owe : Cond := .code yX6_owe cX6_owe 6 none
theorem wv_X6_owe : hw_WV RX6 yX6_owe wX6_owe 4 := ⟨⟨hw_in 950 (by decide +kernel) rfl, hw_in 949 (by decide +kernel) rfl, hw_in 40 (by decide +kernel) rfl, hw_in 64 (by decide +kernel) rfl⟩, by decide +kernel⟩
abbrev rX6_oweBoth : Room := { frames := 1, cells := 0, slots := 0, locals := 25 }
abbrev wX6_oweBoth : Cond := .code yX6_oweBoth cX6_oweBoth 5 none
theorem wv_X6_oweBoth : hw_WV RX6 yX6_oweBoth wX6_oweBoth 3 := ⟨⟨hw_in 1029 (by decide +kernel) rfl, hw_in 1028 (by decide +kernel) rfl, hw_in 55 (by decide +kernel) rfl, hw_in 64 (by decide +kernel) rfl⟩, by decide +kernel⟩
abbrev rX6_oweOn : Room := { frames := 1, cells := 0, slots := 0, locals := 25 }
abbrev wX6_oweOn : Cond := .code yX6_oweOn cX6_oweOn 8 none
theorem wv_X6_oweOn : hw_WV RX6 yX6_oweOn wX6_oweOn 3 := ⟨⟨hw_in 946 (by decide +kernel) rfl, hw_in 945 (by decide +kernel) rfl, hw_in 39 (by decide +kernel) rfl, hw_in 64 (by decide +kernel) rfl⟩, by decide +kernel⟩
abbrev rX6_takeBack : Room := { frames := 2, cells := 0, slots := 0, locals := 52 }
abbrev wX6_takeBack : Cond := .code yX6_takeBack cX6_takeBack 4 none
theorem wv_X6_takeBack : hw_WV RX6 yX6_takeBack wX6_takeBack 2 := ⟨⟨hw_in 942 (by decide +kernel) rfl, hw_in 941 (by decide +kernel) rfl, hw_in 38 (by decide +kernel) rfl, hw_in 64 (by decide +kernel) rfl⟩, by decide +kernel⟩
abbrev rX6_feeOf : Room := { frames := 0, cells := 0, slots := 0, locals := 0 }
abbrev wX6_feeOf : Cond := .code yX6_feeOf cX6_feeOf 3 (some .long)
theorem wv_X6_feeOf : hw_WV RX6 yX6_feeOf wX6_feeOf 2 := ⟨⟨hw_in 974 (by decide +kernel) rfl, hw_in 973 (by decide +kernel) rfl, hw_in 46 (by decide +kernel) rfl, hw_in 64 (by decide +kernel) rfl⟩, by decide +kernel⟩
abbrev rX6_limitOf : Room := { frames := 0, cells := 0, slots := 0, locals := 0 }
abbrev wX6_limitOf : Cond := .code yX6_limitOf cX6_limitOf 4 (some .long)
theorem wv_X6_limitOf : hw_WV RX6 yX6_limitOf wX6_limitOf 2 := ⟨⟨hw_in 984 (by decide +kernel) rfl, hw_in 983 (by decide +kernel) rfl, hw_in 48 (by decide +kernel) rfl, hw_in 64 (by decide +kernel) rfl⟩, by decide +kernel⟩
abbrev rX6_canOwe : Room := { frames := 1, cells := 0, slots := 0, locals := 23 }
abbrev wX6_canOwe : Cond := .code yX6_canOwe cX6_canOwe 4 (some .boolean)
theorem wv_X6_canOwe : hw_WV RX6 yX6_canOwe wX6_canOwe 3 := ⟨⟨hw_in 980 (by decide +kernel) rfl, hw_in 979 (by decide +kernel) rfl, hw_in 47 (by decide +kernel) rfl, hw_in 64 (by decide +kernel) rfl⟩, by decide +kernel⟩
abbrev rX6_findWays : Room := { frames := 2, cells := 0, slots := 0, locals := 46 }
abbrev wX6_findWays : Cond := .code yX6_findWays cX6_findWays 10 none
theorem wv_X6_findWays : hw_WV RX6 yX6_findWays wX6_findWays 3 := ⟨⟨hw_in 970 (by decide +kernel) rfl, hw_in 969 (by decide +kernel) rfl, hw_in 45 (by decide +kernel) rfl, hw_in 64 (by decide +kernel) rfl⟩, by decide +kernel⟩
abbrev rX6_findWay : Room := { frames := 3, cells := 0, slots := 0, locals := 75 }
abbrev wX6_findWay : Cond := .code yX6_findWay cX6_findWay 10 (some .int)
theorem wv_X6_findWay : hw_WV RX6 yX6_findWay wX6_findWay 4 := ⟨⟨hw_in 966 (by decide +kernel) rfl, hw_in 965 (by decide +kernel) rfl, hw_in 44 (by decide +kernel) rfl, hw_in 64 (by decide +kernel) rfl⟩, by decide +kernel⟩
abbrev rX6_lay : Room := { frames := 2, cells := 0, slots := 0, locals := 52 }
abbrev wX6_lay : Cond := .code yX6_lay cX6_lay 5 none
theorem wv_X6_lay : hw_WV RX6 yX6_lay wX6_lay 3 := ⟨⟨hw_in 989 (by decide +kernel) rfl, hw_in 988 (by decide +kernel) rfl, hw_in 49 (by decide +kernel) rfl, hw_in 64 (by decide +kernel) rfl⟩, by decide +kernel⟩
abbrev rX6_firstOf : Room := { frames := 0, cells := 0, slots := 0, locals := 0 }
abbrev wX6_firstOf : Cond := .code yX6_firstOf cX6_firstOf 2 (some .int)
theorem wv_X6_firstOf : hw_WV RX6 yX6_firstOf wX6_firstOf 1 := ⟨⟨hw_in 938 (by decide +kernel) rfl, hw_in 937 (by decide +kernel) rfl, hw_in 37 (by decide +kernel) rfl, hw_in 64 (by decide +kernel) rfl⟩, by decide +kernel⟩
abbrev rX6_goBack : Room := { frames := 3, cells := 0, slots := 0, locals := 75 }
abbrev wX6_goBack : Cond := .code yX6_goBack cX6_goBack 2 none
theorem wv_X6_goBack : hw_WV RX6 yX6_goBack wX6_goBack 1 := ⟨⟨hw_in 993 (by decide +kernel) rfl, hw_in 992 (by decide +kernel) rfl, hw_in 50 (by decide +kernel) rfl, hw_in 64 (by decide +kernel) rfl⟩, by decide +kernel⟩
abbrev rX6_placeOn : Room := { frames := 0, cells := 0, slots := 0, locals := 0 }
abbrev wX6_placeOn : Cond := .code yX6_placeOn cX6_placeOn 5 (some .int)
theorem wv_X6_placeOn : hw_WV RX6 yX6_placeOn wX6_placeOn 2 := ⟨⟨hw_in 958 (by decide +kernel) rfl, hw_in 957 (by decide +kernel) rfl, hw_in 42 (by decide +kernel) rfl, hw_in 64 (by decide +kernel) rfl⟩, by decide +kernel⟩
abbrev rX6_goElsewhere : Room := { frames := 4, cells := 0, slots := 0, locals := 104 }
abbrev wX6_goElsewhere : Cond := .code yX6_goElsewhere cX6_goElsewhere 10 none
theorem wv_X6_goElsewhere : hw_WV RX6 yX6_goElsewhere wX6_goElsewhere 1 := ⟨⟨hw_in 962 (by decide +kernel) rfl, hw_in 961 (by decide +kernel) rfl, hw_in 43 (by decide +kernel) rfl, hw_in 64 (by decide +kernel) rfl⟩, by decide +kernel⟩
abbrev rX6_failsFor : Room := { frames := 5, cells := 0, slots := 0, locals := 133 }
abbrev wX6_failsFor : Cond := .code yX6_failsFor cX6_failsFor 3 none
theorem wv_X6_failsFor : hw_WV RX6 yX6_failsFor wX6_failsFor 1 := ⟨⟨hw_in 954 (by decide +kernel) rfl, hw_in 953 (by decide +kernel) rfl, hw_in 41 (by decide +kernel) rfl, hw_in 64 (by decide +kernel) rfl⟩, by decide +kernel⟩
abbrev rX6_breakWord : Room := { frames := 6, cells := 0, slots := 0, locals := 155 }
abbrev wX6_breakWord : Cond := .code yX6_breakWord cX6_breakWord 5 (some .int)
theorem wv_X6_breakWord : hw_WV RX6 yX6_breakWord wX6_breakWord 1 := ⟨⟨hw_in 934 (by decide +kernel) rfl, hw_in 932 (by decide +kernel) rfl, hw_in 933 (by decide +kernel) rfl, hw_in 64 (by decide +kernel) rfl⟩, by decide +kernel⟩
abbrev rX6_raid : Room := { frames := 6, cells := 0, slots := 0, locals := 155 }
abbrev wX6_raid : Cond := .code yX6_raid cX6_raid 4 (some .int)
theorem wv_X6_raid : hw_WV RX6 yX6_raid wX6_raid 1 := ⟨⟨hw_in 997 (by decide +kernel) rfl, hw_in 995 (by decide +kernel) rfl, hw_in 996 (by decide +kernel) rfl, hw_in 64 (by decide +kernel) rfl⟩, by decide +kernel⟩
abbrev rX6_order : Room := { frames := 4, cells := 0, slots := 0, locals := 104 }
abbrev wX6_order : Cond := .code yX6_order cX6_order 10 (some .int)
theorem wv_X6_order : hw_WV RX6 yX6_order wX6_order 5 := ⟨⟨hw_in 1001 (by decide +kernel) rfl, hw_in 999 (by decide +kernel) rfl, hw_in 1000 (by decide +kernel) rfl, hw_in 64 (by decide +kernel) rfl⟩, by decide +kernel⟩
abbrev rX6_isOrder : Room := { frames := 1, cells := 0, slots := 0, locals := 22 }
abbrev wX6_isOrder : Cond := .code yX6_isOrder cX6_isOrder 2 (some .boolean)
theorem wv_X6_isOrder : hw_WV RX6 yX6_isOrder wX6_isOrder 1 := ⟨⟨hw_in 1009 (by decide +kernel) rfl, hw_in 1008 (by decide +kernel) rfl, hw_in 51 (by decide +kernel) rfl, hw_in 64 (by decide +kernel) rfl⟩, by decide +kernel⟩
abbrev rX6_fetch : Room := { frames := 4, cells := 0, slots := 0, locals := 96 }
abbrev wX6_fetch : Cond := .code yX6_fetch cX6_fetch 6 (some .int)
theorem wv_X6_fetch : hw_WV RX6 yX6_fetch wX6_fetch 2 := ⟨⟨hw_in 1005 (by decide +kernel) rfl, hw_in 1003 (by decide +kernel) rfl, hw_in 1004 (by decide +kernel) rfl, hw_in 64 (by decide +kernel) rfl⟩, by decide +kernel⟩
abbrev rX6_move : Room := { frames := 1, cells := 0, slots := 0, locals := 25 }
abbrev wX6_move : Cond := .code yX6_move cX6_move 3 none
theorem wv_X6_move : hw_WV RX6 yX6_move wX6_move 1 := ⟨⟨hw_in 1021 (by decide +kernel) rfl, hw_in 1020 (by decide +kernel) rfl, hw_in 53 (by decide +kernel) rfl, hw_in 64 (by decide +kernel) rfl⟩, by decide +kernel⟩
abbrev rX6_comeAll : Room := { frames := 2, cells := 0, slots := 0, locals := 49 }
abbrev wX6_comeAll : Cond := .code yX6_comeAll cX6_comeAll 2 none
theorem wv_X6_comeAll : hw_WV RX6 yX6_comeAll wX6_comeAll 0 := ⟨⟨hw_in 1025 (by decide +kernel) rfl, hw_in 1024 (by decide +kernel) rfl, hw_in 54 (by decide +kernel) rfl, hw_in 64 (by decide +kernel) rfl⟩, by decide +kernel⟩
abbrev rX6_nextHour : Room := { frames := 4, cells := 0, slots := 0, locals := 96 }
abbrev wX6_nextHour : Cond := .code yX6_nextHour cX6_nextHour 3 none
theorem wv_X6_nextHour : hw_WV RX6 yX6_nextHour wX6_nextHour 0 := ⟨⟨hw_in 1017 (by decide +kernel) rfl, hw_in 1016 (by decide +kernel) rfl, hw_in 52 (by decide +kernel) rfl, hw_in 64 (by decide +kernel) rfl⟩, by decide +kernel⟩
abbrev rX6_pass : Room := { frames := 5, cells := 0, slots := 0, locals := 118 }
abbrev wX6_pass : Cond := .code yX6_pass cX6_pass 3 (some .int)
theorem wv_X6_pass : hw_WV RX6 yX6_pass wX6_pass 1 := ⟨⟨hw_in 1013 (by decide +kernel) rfl, hw_in 1011 (by decide +kernel) rfl, hw_in 1012 (by decide +kernel) rfl, hw_in 64 (by decide +kernel) rfl⟩, by decide +kernel⟩
abbrev rX6_pay : Room := { frames := 3, cells := 0, slots := 0, locals := 65 }
abbrev wX6_pay : Cond := .code yX6_pay cX6_pay 7 (some .int)
theorem wv_X6_pay : hw_WV RX6 yX6_pay wX6_pay 3 := ⟨⟨hw_in 1033 (by decide +kernel) rfl, hw_in 1031 (by decide +kernel) rfl, hw_in 1032 (by decide +kernel) rfl, hw_in 64 (by decide +kernel) rfl⟩, by decide +kernel⟩
abbrev rX6_deliver : Room := { frames := 3, cells := 0, slots := 0, locals := 65 }
abbrev wX6_deliver : Cond := .code yX6_deliver cX6_deliver 7 (some .int)
theorem wv_X6_deliver : hw_WV RX6 yX6_deliver wX6_deliver 3 := ⟨⟨hw_in 1037 (by decide +kernel) rfl, hw_in 1035 (by decide +kernel) rfl, hw_in 1036 (by decide +kernel) rfl, hw_in 64 (by decide +kernel) rfl⟩, by decide +kernel⟩
abbrev rX6_courier : Room := { frames := 3, cells := 0, slots := 0, locals := 65 }
abbrev wX6_courier : Cond := .code yX6_courier cX6_courier 8 (some .int)
theorem wv_X6_courier : hw_WV RX6 yX6_courier wX6_courier 4 := ⟨⟨hw_in 1041 (by decide +kernel) rfl, hw_in 1039 (by decide +kernel) rfl, hw_in 1040 (by decide +kernel) rfl, hw_in 64 (by decide +kernel) rfl⟩, by decide +kernel⟩
abbrev rX6_rob : Room := { frames := 1, cells := 0, slots := 0, locals := 22 }
abbrev wX6_rob : Cond := .code yX6_rob cX6_rob 3 (some .int)
theorem wv_X6_rob : hw_WV RX6 yX6_rob wX6_rob 1 := ⟨⟨hw_in 1045 (by decide +kernel) rfl, hw_in 1043 (by decide +kernel) rfl, hw_in 1044 (by decide +kernel) rfl, hw_in 64 (by decide +kernel) rfl⟩, by decide +kernel⟩
abbrev rX6_clear : Room := { frames := 2, cells := 0, slots := 0, locals := 49 }
abbrev wX6_clear : Cond := .code yX6_clear cX6_clear 12 (some .long)
theorem wv_X6_clear : hw_WV RX6 yX6_clear wX6_clear 3 := ⟨⟨hw_in 1053 (by decide +kernel) rfl, hw_in 1052 (by decide +kernel) rfl, hw_in 56 (by decide +kernel) rfl, hw_in 64 (by decide +kernel) rfl⟩, by decide +kernel⟩
abbrev rX6_ring : Room := { frames := 3, cells := 0, slots := 0, locals := 80 }
abbrev wX6_ring : Cond := .code yX6_ring cX6_ring 6 (some .long)
theorem wv_X6_ring : hw_WV RX6 yX6_ring wX6_ring 0 := ⟨⟨hw_in 1049 (by decide +kernel) rfl, hw_in 1047 (by decide +kernel) rfl, hw_in 1048 (by decide +kernel) rfl, hw_in 64 (by decide +kernel) rfl⟩, by decide +kernel⟩
abbrev rX6_law : Room := { frames := 1, cells := 0, slots := 0, locals := 22 }
abbrev wX6_law : Cond := .code yX6_law cX6_law 4 (some .int)
theorem wv_X6_law : hw_WV RX6 yX6_law wX6_law 2 := ⟨⟨hw_in 1057 (by decide +kernel) rfl, hw_in 1055 (by decide +kernel) rfl, hw_in 1056 (by decide +kernel) rfl, hw_in 64 (by decide +kernel) rfl⟩, by decide +kernel⟩
abbrev rX6_list : Room := { frames := 1, cells := 0, slots := 0, locals := 22 }
abbrev wX6_list : Cond := .code yX6_list cX6_list 2 (some .boolean)
theorem wv_X6_list : hw_WV RX6 yX6_list wX6_list 1 := ⟨⟨hw_in 1061 (by decide +kernel) rfl, hw_in 1059 (by decide +kernel) rfl, hw_in 1060 (by decide +kernel) rfl, hw_in 64 (by decide +kernel) rfl⟩, by decide +kernel⟩
abbrev rX6_brokerOf : Room := { frames := 2, cells := 0, slots := 0, locals := 43 }
abbrev wX6_brokerOf : Cond := .code yX6_brokerOf cX6_brokerOf 7 (some .long)
theorem wv_X6_brokerOf : hw_WV RX6 yX6_brokerOf wX6_brokerOf 2 := ⟨⟨hw_in 1065 (by decide +kernel) rfl, hw_in 1063 (by decide +kernel) rfl, hw_in 1064 (by decide +kernel) rfl, hw_in 64 (by decide +kernel) rfl⟩, by decide +kernel⟩
abbrev rX6_debt : Room := { frames := 3, cells := 0, slots := 0, locals := 65 }
abbrev wX6_debt : Cond := .code yX6_debt cX6_debt 4 (some .long)
theorem wv_X6_debt : hw_WV RX6 yX6_debt wX6_debt 3 := ⟨⟨hw_in 1069 (by decide +kernel) rfl, hw_in 1067 (by decide +kernel) rfl, hw_in 1068 (by decide +kernel) rfl, hw_in 64 (by decide +kernel) rfl⟩, by decide +kernel⟩
abbrev rX6_agree : Room := { frames := 3, cells := 0, slots := 0, locals := 65 }
abbrev wX6_agree : Cond := .code yX6_agree cX6_agree 3 (some .boolean)
theorem wv_X6_agree : hw_WV RX6 yX6_agree wX6_agree 2 := ⟨⟨hw_in 1073 (by decide +kernel) rfl, hw_in 1071 (by decide +kernel) rfl, hw_in 1072 (by decide +kernel) rfl, hw_in 64 (by decide +kernel) rfl⟩, by decide +kernel⟩
abbrev rX6_way : Room := { frames := 4, cells := 0, slots := 0, locals := 104 }
abbrev wX6_way : Cond := .code yX6_way cX6_way 7 (some .int)
theorem wv_X6_way : hw_WV RX6 yX6_way wX6_way 4 := ⟨⟨hw_in 1077 (by decide +kernel) rfl, hw_in 1075 (by decide +kernel) rfl, hw_in 1076 (by decide +kernel) rfl, hw_in 64 (by decide +kernel) rfl⟩, by decide +kernel⟩
abbrev rX6_wayOf : Room := { frames := 2, cells := 0, slots := 0, locals := 43 }
abbrev wX6_wayOf : Cond := .code yX6_wayOf cX6_wayOf 3 (some .int)
theorem wv_X6_wayOf : hw_WV RX6 yX6_wayOf wX6_wayOf 2 := ⟨⟨hw_in 1081 (by decide +kernel) rfl, hw_in 1079 (by decide +kernel) rfl, hw_in 1080 (by decide +kernel) rfl, hw_in 64 (by decide +kernel) rfl⟩, by decide +kernel⟩
abbrev rX6_orderOf : Room := { frames := 2, cells := 0, slots := 0, locals := 43 }
abbrev wX6_orderOf : Cond := .code yX6_orderOf cX6_orderOf 4 (some .int)
theorem wv_X6_orderOf : hw_WV RX6 yX6_orderOf wX6_orderOf 2 := ⟨⟨hw_in 1085 (by decide +kernel) rfl, hw_in 1083 (by decide +kernel) rfl, hw_in 1084 (by decide +kernel) rfl, hw_in 64 (by decide +kernel) rfl⟩, by decide +kernel⟩
abbrev rX6_inquiry : Room := { frames := 0, cells := 0, slots := 0, locals := 0 }
abbrev wX6_inquiry : Cond := .code yX6_inquiry cX6_inquiry 5 (some .int)
theorem wv_X6_inquiry : hw_WV RX6 yX6_inquiry wX6_inquiry 0 := ⟨⟨hw_in 1089 (by decide +kernel) rfl, hw_in 1087 (by decide +kernel) rfl, hw_in 1088 (by decide +kernel) rfl, hw_in 64 (by decide +kernel) rfl⟩, by decide +kernel⟩
abbrev rX6_sum : Room := { frames := 1, cells := 0, slots := 0, locals := 22 }
abbrev wX6_sum : Cond := .code yX6_sum cX6_sum 5 (some .long)
theorem wv_X6_sum : hw_WV RX6 yX6_sum wX6_sum 1 := ⟨⟨hw_in 1093 (by decide +kernel) rfl, hw_in 1091 (by decide +kernel) rfl, hw_in 1092 (by decide +kernel) rfl, hw_in 64 (by decide +kernel) rfl⟩, by decide +kernel⟩
abbrev rX0_init : Room := { frames := 1, cells := 0, slots := 0, locals := 16 }
abbrev wX0_init : Cond := .code yX0_init cX0_init 1 none
theorem wi_X0_init : hw_WI yX0_init wX0_init 0 := ⟨⟨hw_in 85 (by decide +kernel) rfl, hw_in 84 (by decide +kernel) rfl, hw_in 59 (by decide +kernel) rfl⟩, by decide +kernel⟩
abbrev rX0_isGood : Room := { frames := 0, cells := 0, slots := 0, locals := 0 }
abbrev wX0_isGood : Cond := .code yX0_isGood cX0_isGood 1 (some .boolean)
theorem wv_X0_isGood : hw_WV RX0 yX0_isGood wX0_isGood 0 := ⟨⟨hw_in 509 (by decide +kernel) rfl, hw_in 507 (by decide +kernel) rfl, hw_in 508 (by decide +kernel) rfl, hw_in 59 (by decide +kernel) rfl⟩, by decide +kernel⟩
abbrev rX0_limitNow : Room := { frames := 0, cells := 0, slots := 0, locals := 0 }
abbrev wX0_limitNow : Cond := .code yX0_limitNow cX0_limitNow 3 (some .int)
theorem wv_X0_limitNow : hw_WV RX0 yX0_limitNow wX0_limitNow 2 := ⟨⟨hw_in 549 (by decide +kernel) rfl, hw_in 547 (by decide +kernel) rfl, hw_in 548 (by decide +kernel) rfl, hw_in 59 (by decide +kernel) rfl⟩, by decide +kernel⟩
abbrev rX1_init : Room := { frames := 1, cells := 0, slots := 0, locals := 16 }
abbrev wX1_init : Cond := .code yX1_init cX1_init 1 none
theorem wi_X1_init : hw_WI yX1_init wX1_init 0 := ⟨⟨hw_in 167 (by decide +kernel) rfl, hw_in 166 (by decide +kernel) rfl, hw_in 61 (by decide +kernel) rfl⟩, by decide +kernel⟩
abbrev rX2_init : Room := { frames := 1, cells := 0, slots := 0, locals := 16 }
abbrev wX2_init : Cond := .code yX2_init cX2_init 1 none
theorem wi_X2_init : hw_WI yX2_init wX2_init 0 := ⟨⟨hw_in 192 (by decide +kernel) rfl, hw_in 191 (by decide +kernel) rfl, hw_in 62 (by decide +kernel) rfl⟩, by decide +kernel⟩
abbrev rX2_change : Room := { frames := 0, cells := 0, slots := 0, locals := 0 }
abbrev wX2_change : Cond := .code yX2_change cX2_change 5 none
theorem wv_X2_change : hw_WV RX2 yX2_change wX2_change 3 := ⟨⟨hw_in 318 (by decide +kernel) rfl, hw_in 316 (by decide +kernel) rfl, hw_in 317 (by decide +kernel) rfl, hw_in 62 (by decide +kernel) rfl⟩, by decide +kernel⟩
abbrev rX2_write : Room := { frames := 0, cells := 0, slots := 0, locals := 0 }
abbrev wX2_write : Cond := .code yX2_write cX2_write 5 none
theorem wv_X2_write : hw_WV RX2 yX2_write wX2_write 3 := ⟨⟨hw_in 322 (by decide +kernel) rfl, hw_in 320 (by decide +kernel) rfl, hw_in 321 (by decide +kernel) rfl, hw_in 62 (by decide +kernel) rfl⟩, by decide +kernel⟩
abbrev rX2_changeKnown : Room := { frames := 1, cells := 0, slots := 0, locals := 24 }
abbrev wX2_changeKnown : Cond := .code yX2_changeKnown cX2_changeKnown 5 none
theorem wv_X2_changeKnown : hw_WV RX2 yX2_changeKnown wX2_changeKnown 3 := ⟨⟨hw_in 314 (by decide +kernel) rfl, hw_in 312 (by decide +kernel) rfl, hw_in 313 (by decide +kernel) rfl, hw_in 62 (by decide +kernel) rfl⟩, by decide +kernel⟩
abbrev rX3_init : Room := { frames := 1, cells := 0, slots := 0, locals := 16 }
abbrev wX3_init : Cond := .code yX3_init cX3_init 1 none
theorem wi_X3_init : hw_WI yX3_init wX3_init 0 := ⟨⟨hw_in 123 (by decide +kernel) rfl, hw_in 122 (by decide +kernel) rfl, hw_in 60 (by decide +kernel) rfl⟩, by decide +kernel⟩
abbrev rX3_firstBroker : Room := { frames := 0, cells := 0, slots := 0, locals := 0 }
abbrev wX3_firstBroker : Cond := .code yX3_firstBroker cX3_firstBroker 1 (some .int)
theorem wv_X3_firstBroker : hw_WV RX3 yX3_firstBroker wX3_firstBroker 0 := ⟨⟨hw_in 483 (by decide +kernel) rfl, hw_in 481 (by decide +kernel) rfl, hw_in 482 (by decide +kernel) rfl, hw_in 60 (by decide +kernel) rfl⟩, by decide +kernel⟩
abbrev rX3_lastBroker : Room := { frames := 0, cells := 0, slots := 0, locals := 0 }
abbrev wX3_lastBroker : Cond := .code yX3_lastBroker cX3_lastBroker 1 (some .int)
theorem wv_X3_lastBroker : hw_WV RX3 yX3_lastBroker wX3_lastBroker 0 := ⟨⟨hw_in 517 (by decide +kernel) rfl, hw_in 515 (by decide +kernel) rfl, hw_in 516 (by decide +kernel) rfl, hw_in 60 (by decide +kernel) rfl⟩, by decide +kernel⟩
abbrev rX3_brokerAt : Room := { frames := 0, cells := 0, slots := 0, locals := 0 }
abbrev wX3_brokerAt : Cond := .code yX3_brokerAt cX3_brokerAt 2 (some .int)
theorem wv_X3_brokerAt : hw_WV RX3 yX3_brokerAt wX3_brokerAt 1 := ⟨⟨hw_in 735 (by decide +kernel) rfl, hw_in 733 (by decide +kernel) rfl, hw_in 734 (by decide +kernel) rfl, hw_in 60 (by decide +kernel) rfl⟩, by decide +kernel⟩
abbrev rX3_isOpen : Room := { frames := 0, cells := 0, slots := 0, locals := 0 }
abbrev wX3_isOpen : Cond := .code yX3_isOpen cX3_isOpen 1 (some .boolean)
theorem wv_X3_isOpen : hw_WV RX3 yX3_isOpen wX3_isOpen 0 := ⟨⟨hw_in 638 (by decide +kernel) rfl, hw_in 636 (by decide +kernel) rfl, hw_in 637 (by decide +kernel) rfl, hw_in 60 (by decide +kernel) rfl⟩, by decide +kernel⟩
abbrev rX3_isStillToPass : Room := { frames := 0, cells := 0, slots := 0, locals := 0 }
abbrev wX3_isStillToPass : Cond := .code yX3_isStillToPass cX3_isStillToPass 3 (some .boolean)
theorem wv_X3_isStillToPass : hw_WV RX3 yX3_isStillToPass wX3_isStillToPass 1 := ⟨⟨hw_in 497 (by decide +kernel) rfl, hw_in 495 (by decide +kernel) rfl, hw_in 496 (by decide +kernel) rfl, hw_in 60 (by decide +kernel) rfl⟩, by decide +kernel⟩
abbrev rX3_takeWay : Room := { frames := 0, cells := 0, slots := 0, locals := 0 }
abbrev wX3_takeWay : Cond := .code yX3_takeWay cX3_takeWay 5 none
theorem wv_X3_takeWay : hw_WV RX3 yX3_takeWay wX3_takeWay 2 := ⟨⟨hw_in 565 (by decide +kernel) rfl, hw_in 563 (by decide +kernel) rfl, hw_in 564 (by decide +kernel) rfl, hw_in 60 (by decide +kernel) rfl⟩, by decide +kernel⟩
abbrev rX4_init : Room := { frames := 1, cells := 0, slots := 0, locals := 16 }
abbrev wX4_init : Cond := .code yX4_init cX4_init 3 none
theorem wi_X4_init : hw_WI yX4_init wX4_init 2 := ⟨⟨hw_in 211 (by decide +kernel) rfl, hw_in 210 (by decide +kernel) rfl, hw_in 63 (by decide +kernel) rfl⟩, by decide +kernel⟩
abbrev rX4_start : Room := { frames := 1, cells := 0, slots := 0, locals := 20 }
abbrev wX4_start : Cond := .code yX4_start cX4_start 5 none
theorem wv_X4_start : hw_WV RX4 yX4_start wX4_start 3 := ⟨⟨hw_in 505 (by decide +kernel) rfl, hw_in 503 (by decide +kernel) rfl, hw_in 504 (by decide +kernel) rfl, hw_in 63 (by decide +kernel) rfl⟩, by decide +kernel⟩
abbrev rX4_leaveOut : Room := { frames := 0, cells := 0, slots := 0, locals := 0 }
abbrev wX4_leaveOut : Cond := .code yX4_leaveOut cX4_leaveOut 2 none
theorem wv_X4_leaveOut : hw_WV RX4 yX4_leaveOut wX4_leaveOut 1 := ⟨⟨hw_in 513 (by decide +kernel) rfl, hw_in 511 (by decide +kernel) rfl, hw_in 512 (by decide +kernel) rfl, hw_in 63 (by decide +kernel) rfl⟩, by decide +kernel⟩
abbrev rX4_find : Room := { frames := 4, cells := 0, slots := 0, locals := 92 }
abbrev wX4_find : Cond := .code yX4_find cX4_find 4 (some .boolean)
theorem wv_X4_find : hw_WV RX4 yX4_find wX4_find 2 := ⟨⟨hw_in 521 (by decide +kernel) rfl, hw_in 519 (by decide +kernel) rfl, hw_in 520 (by decide +kernel) rfl, hw_in 63 (by decide +kernel) rfl⟩, by decide +kernel⟩
abbrev rX4_allFees : Room := { frames := 0, cells := 0, slots := 0, locals := 0 }
abbrev wX4_allFees : Cond := .code yX4_allFees cX4_allFees 1 (some .int)
theorem wv_X4_allFees : hw_WV RX4 yX4_allFees wX4_allFees 0 := ⟨⟨hw_in 596 (by decide +kernel) rfl, hw_in 594 (by decide +kernel) rfl, hw_in 595 (by decide +kernel) rfl, hw_in 63 (by decide +kernel) rfl⟩, by decide +kernel⟩
abbrev rX4_feesBehindFirst : Room := { frames := 0, cells := 0, slots := 0, locals := 0 }
abbrev wX4_feesBehindFirst : Cond := .code yX4_feesBehindFirst cX4_feesBehindFirst 1 (some .int)
theorem wv_X4_feesBehindFirst : hw_WV RX4 yX4_feesBehindFirst wX4_feesBehindFirst 0 := ⟨⟨hw_in 561 (by decide +kernel) rfl, hw_in 559 (by decide +kernel) rfl, hw_in 560 (by decide +kernel) rfl, hw_in 63 (by decide +kernel) rfl⟩, by decide +kernel⟩
abbrev rX4_feeOf : Room := { frames := 0, cells := 0, slots := 0, locals := 0 }
abbrev wX4_feeOf : Cond := .code yX4_feeOf cX4_feeOf 2 (some .int)
theorem wv_X4_feeOf : hw_WV RX4 yX4_feeOf wX4_feeOf 1 := ⟨⟨hw_in 529 (by decide +kernel) rfl, hw_in 528 (by decide +kernel) rfl, hw_in 9 (by decide +kernel) rfl, hw_in 63 (by decide +kernel) rfl⟩, by decide +kernel⟩
abbrev rX4_canOwe : Room := { frames := 1, cells := 0, slots := 0, locals := 22 }
abbrev wX4_canOwe : Cond := .code yX4_canOwe cX4_canOwe 5 (some .boolean)
theorem wv_X4_canOwe : hw_WV RX4 yX4_canOwe wX4_canOwe 2 := ⟨⟨hw_in 545 (by decide +kernel) rfl, hw_in 544 (by decide +kernel) rfl, hw_in 13 (by decide +kernel) rfl, hw_in 63 (by decide +kernel) rfl⟩, by decide +kernel⟩
abbrev rX4_startAt : Room := { frames := 1, cells := 0, slots := 0, locals := 21 }
abbrev wX4_startAt : Cond := .code yX4_startAt cX4_startAt 3 none
theorem wv_X4_startAt : hw_WV RX4 yX4_startAt wX4_startAt 1 := ⟨⟨hw_in 525 (by decide +kernel) rfl, hw_in 524 (by decide +kernel) rfl, hw_in 8 (by decide +kernel) rfl, hw_in 63 (by decide +kernel) rfl⟩, by decide +kernel⟩
abbrev rX4_bestUnsettled : Room := { frames := 1, cells := 0, slots := 0, locals := 23 }
abbrev wX4_bestUnsettled : Cond := .code yX4_bestUnsettled cX4_bestUnsettled 3 (some .int)
theorem wv_X4_bestUnsettled : hw_WV RX4 yX4_bestUnsettled wX4_bestUnsettled 0 := ⟨⟨hw_in 537 (by decide +kernel) rfl, hw_in 536 (by decide +kernel) rfl, hw_in 11 (by decide +kernel) rfl, hw_in 63 (by decide +kernel) rfl⟩, by decide +kernel⟩
abbrev rX4_isBetter : Room := { frames := 0, cells := 0, slots := 0, locals := 0 }
abbrev wX4_isBetter : Cond := .code yX4_isBetter cX4_isBetter 4 (some .boolean)
theorem wv_X4_isBetter : hw_WV RX4 yX4_isBetter wX4_isBetter 3 := ⟨⟨hw_in 541 (by decide +kernel) rfl, hw_in 540 (by decide +kernel) rfl, hw_in 12 (by decide +kernel) rfl, hw_in 63 (by decide +kernel) rfl⟩, by decide +kernel⟩
abbrev rX4_reachFromBest : Room := { frames := 2, cells := 0, slots := 0, locals := 46 }
abbrev wX4_reachFromBest : Cond := .code yX4_reachFromBest cX4_reachFromBest 5 none
theorem wv_X4_reachFromBest : hw_WV RX4 yX4_reachFromBest wX4_reachFromBest 0 := ⟨⟨hw_in 533 (by decide +kernel) rfl, hw_in 532 (by decide +kernel) rfl, hw_in 10 (by decide +kernel) rfl, hw_in 63 (by decide +kernel) rfl⟩, by decide +kernel⟩
abbrev rX4_follow : Room := { frames := 3, cells := 0, slots := 0, locals := 68 }
abbrev wX4_follow : Cond := .code yX4_follow cX4_follow 5 none
theorem wv_X4_follow : hw_WV RX4 yX4_follow wX4_follow 2 := ⟨⟨hw_in 553 (by decide +kernel) rfl, hw_in 552 (by decide +kernel) rfl, hw_in 14 (by decide +kernel) rfl, hw_in 63 (by decide +kernel) rfl⟩, by decide +kernel⟩
abbrev rX4_nextOf : Room := { frames := 2, cells := 0, slots := 0, locals := 46 }
abbrev wX4_nextOf : Cond := .code yX4_nextOf cX4_nextOf 3 (some .int)
theorem wv_X4_nextOf : hw_WV RX4 yX4_nextOf wX4_nextOf 1 := ⟨⟨hw_in 557 (by decide +kernel) rfl, hw_in 556 (by decide +kernel) rfl, hw_in 15 (by decide +kernel) rfl, hw_in 63 (by decide +kernel) rfl⟩, by decide +kernel⟩
abbrev rL_broker : Room := { frames := 8, cells := 4, slots := 24, locals := 128 }
abbrev rL_rate : Room := { frames := 8, cells := 2, slots := 12, locals := 127 }
abbrev rL_trust : Room := { frames := 9, cells := 4, slots := 24, locals := 149 }
abbrev rL_breakWord : Room := { frames := 8, cells := 2, slots := 12, locals := 183 }
abbrev rL_raid : Room := { frames := 8, cells := 2, slots := 12, locals := 185 }
abbrev rL_order : Room := { frames := 9, cells := 9, slots := 54, locals := 164 }
abbrev rL_fetch : Room := { frames := 8, cells := 4, slots := 24, locals := 128 }
abbrev rL_pass : Room := { frames := 8, cells := 1, slots := 6, locals := 134 }
abbrev rL_pay : Room := { frames := 9, cells := 7, slots := 42, locals := 148 }
abbrev rL_deliver : Room := { frames := 9, cells := 6, slots := 36, locals := 148 }
abbrev rL_courier : Room := { frames := 9, cells := 7, slots := 42, locals := 150 }
abbrev rL_rob : Room := { frames := 8, cells := 2, slots := 12, locals := 124 }
abbrev rL_law : Room := { frames := 8, cells := 2, slots := 12, locals := 126 }
abbrev rL_list : Room := { frames := 8, cells := 1, slots := 6, locals := 124 }
abbrev rL_brokerOf : Room := { frames := 8, cells := 2, slots := 12, locals := 126 }
abbrev rL_debt : Room := { frames := 8, cells := 2, slots := 12, locals := 126 }
abbrev rL_agree : Room := { frames := 8, cells := 2, slots := 12, locals := 125 }
abbrev rL_way : Room := { frames := 9, cells := 5, slots := 30, locals := 162 }
abbrev rL_wayOf : Room := { frames := 8, cells := 2, slots := 12, locals := 125 }
abbrev rL_orderOf : Room := { frames := 8, cells := 2, slots := 12, locals := 127 }
abbrev rL_sum : Room := { frames := 8, cells := 1, slots := 6, locals := 125 }
theorem ml_L_89 : Cond.methodLink RL 89 yX5_init ∈ hw_TB := hw_in 74 (by decide +kernel) rfl
theorem ml_X5_39 : Cond.methodLink RX5 39 yX4_init ∈ hw_TB := hw_in 209 (by decide +kernel) rfl
theorem ml_L_111 : Cond.methodLink RL 111 yX5_festival ∈ hw_TB := hw_in 296 (by decide +kernel) rfl
theorem ml_L_146 : Cond.methodLink RL 146 yX5_ring ∈ hw_TB := hw_in 300 (by decide +kernel) rfl
theorem ml_X5_198 : Cond.methodLink RX5 198 yX5_clearRing ∈ hw_TB := hw_in 304 (by decide +kernel) rfl
theorem ml_X5_175 : Cond.methodLink RX5 175 yX2_changeKnown ∈ hw_TB := hw_in 311 (by decide +kernel) rfl
theorem ml_X2_19 : Cond.methodLink RX2 19 yX2_change ∈ hw_TB := hw_in 315 (by decide +kernel) rfl
theorem ml_X2_23 : Cond.methodLink RX2 23 yX2_write ∈ hw_TB := hw_in 319 (by decide +kernel) rfl
theorem ml_L_176 : Cond.methodLink RL 176 yX5_inquiry ∈ hw_TB := hw_in 323 (by decide +kernel) rfl
theorem ml_X5_224 : Cond.methodLink RX5 224 yX5_namedByBook ∈ hw_TB := hw_in 327 (by decide +kernel) rfl
theorem ml_L_93 : Cond.methodLink RL 93 yL_broker ∈ hw_TB := hw_in 331 (by decide +kernel) rfl
theorem ml_L_7 : Cond.methodLink RL 7 yX5_broker ∈ hw_TB := hw_in 337 (by decide +kernel) rfl
theorem ml_X5_58 : Cond.methodLink RX5 58 yX5_requireIndex ∈ hw_TB := hw_in 341 (by decide +kernel) rfl
theorem ml_X5_62 : Cond.methodLink RX5 62 yX5_requireRange ∈ hw_TB := hw_in 412 (by decide +kernel) rfl
theorem ml_X5_70 : Cond.methodLink RX5 70 yX5_requireState ∈ hw_TB := hw_in 431 (by decide +kernel) rfl
theorem ml_L_103 : Cond.methodLink RL 103 yL_rate ∈ hw_TB := hw_in 450 (by decide +kernel) rfl
theorem ml_L_19 : Cond.methodLink RL 19 yX5_rate ∈ hw_TB := hw_in 453 (by decide +kernel) rfl
theorem ml_L_107 : Cond.methodLink RL 107 yL_trust ∈ hw_TB := hw_in 457 (by decide +kernel) rfl
theorem ml_L_23 : Cond.methodLink RL 23 yX5_trust ∈ hw_TB := hw_in 460 (by decide +kernel) rfl
theorem ml_X5_84 : Cond.methodLink RX5 84 yX5_requireTwoBrokers ∈ hw_TB := hw_in 464 (by decide +kernel) rfl
theorem ml_L_116 : Cond.methodLink RL 116 yL_breakWord ∈ hw_TB := hw_in 469 (by decide +kernel) rfl
theorem ml_L_27 : Cond.methodLink RL 27 yX5_breakWord ∈ hw_TB := hw_in 472 (by decide +kernel) rfl
theorem ml_X5_100 : Cond.methodLink RX5 100 yX5_loseOrdersFrom ∈ hw_TB := hw_in 476 (by decide +kernel) rfl
theorem ml_X5_294 : Cond.methodLink RX5 294 yX3_firstBroker ∈ hw_TB := hw_in 480 (by decide +kernel) rfl
theorem ml_X5_287 : Cond.methodLink RX5 287 yX5_takeBack ∈ hw_TB := hw_in 484 (by decide +kernel) rfl
theorem ml_X5_281 : Cond.methodLink RX5 281 yX2_change ∈ hw_TB := hw_in 488 (by decide +kernel) rfl
theorem ml_X5_284 : Cond.methodLink RX5 284 yX2_write ∈ hw_TB := hw_in 489 (by decide +kernel) rfl
theorem ml_X5_104 : Cond.methodLink RX5 104 yX5_avoid ∈ hw_TB := hw_in 490 (by decide +kernel) rfl
theorem ml_X5_297 : Cond.methodLink RX5 297 yX3_isStillToPass ∈ hw_TB := hw_in 494 (by decide +kernel) rfl
theorem ml_X5_301 : Cond.methodLink RX5 301 yX5_lookAnew ∈ hw_TB := hw_in 498 (by decide +kernel) rfl
theorem ml_X5_267 : Cond.methodLink RX5 267 yX4_start ∈ hw_TB := hw_in 502 (by decide +kernel) rfl
theorem ml_X4_47 : Cond.methodLink RX4 47 yX0_isGood ∈ hw_TB := hw_in 506 (by decide +kernel) rfl
theorem ml_X5_304 : Cond.methodLink RX5 304 yX4_leaveOut ∈ hw_TB := hw_in 510 (by decide +kernel) rfl
theorem ml_X5_159 : Cond.methodLink RX5 159 yX3_lastBroker ∈ hw_TB := hw_in 514 (by decide +kernel) rfl
theorem ml_X5_271 : Cond.methodLink RX5 271 yX4_find ∈ hw_TB := hw_in 518 (by decide +kernel) rfl
theorem ml_X4_56 : Cond.methodLink RX4 56 yX4_startAt ∈ hw_TB := hw_in 522 (by decide +kernel) rfl
theorem ml_X4_80 : Cond.methodLink RX4 80 yX4_feeOf ∈ hw_TB := hw_in 526 (by decide +kernel) rfl
theorem ml_X4_60 : Cond.methodLink RX4 60 yX4_reachFromBest ∈ hw_TB := hw_in 530 (by decide +kernel) rfl
theorem ml_X4_88 : Cond.methodLink RX4 88 yX4_bestUnsettled ∈ hw_TB := hw_in 534 (by decide +kernel) rfl
theorem ml_X4_84 : Cond.methodLink RX4 84 yX4_isBetter ∈ hw_TB := hw_in 538 (by decide +kernel) rfl
theorem ml_X4_92 : Cond.methodLink RX4 92 yX4_canOwe ∈ hw_TB := hw_in 542 (by decide +kernel) rfl
theorem ml_X4_76 : Cond.methodLink RX4 76 yX0_limitNow ∈ hw_TB := hw_in 546 (by decide +kernel) rfl
theorem ml_X4_63 : Cond.methodLink RX4 63 yX4_follow ∈ hw_TB := hw_in 550 (by decide +kernel) rfl
theorem ml_X4_96 : Cond.methodLink RX4 96 yX4_nextOf ∈ hw_TB := hw_in 554 (by decide +kernel) rfl
theorem ml_X5_307 : Cond.methodLink RX5 307 yX4_feesBehindFirst ∈ hw_TB := hw_in 558 (by decide +kernel) rfl
theorem ml_X5_148 : Cond.methodLink RX5 148 yX3_takeWay ∈ hw_TB := hw_in 562 (by decide +kernel) rfl
theorem ml_X5_152 : Cond.methodLink RX5 152 yX5_letArise ∈ hw_TB := hw_in 566 (by decide +kernel) rfl
theorem ml_X5_291 : Cond.methodLink RX5 291 yX5_endForward ∈ hw_TB := hw_in 570 (by decide +kernel) rfl
theorem ml_L_120 : Cond.methodLink RL 120 yL_raid ∈ hw_TB := hw_in 574 (by decide +kernel) rfl
theorem ml_L_31 : Cond.methodLink RL 31 yX5_raid ∈ hw_TB := hw_in 577 (by decide +kernel) rfl
theorem ml_X5_108 : Cond.methodLink RX5 108 yX0_isGood ∈ hw_TB := hw_in 581 (by decide +kernel) rfl
theorem ml_L_123 : Cond.methodLink RL 123 yL_order ∈ hw_TB := hw_in 582 (by decide +kernel) rfl
theorem ml_L_34 : Cond.methodLink RL 34 yX5_order ∈ hw_TB := hw_in 585 (by decide +kernel) rfl
theorem ml_X5_127 : Cond.methodLink RX5 127 yX5_findWay ∈ hw_TB := hw_in 589 (by decide +kernel) rfl
theorem ml_X5_141 : Cond.methodLink RX5 141 yX4_allFees ∈ hw_TB := hw_in 593 (by decide +kernel) rfl
theorem ml_X5_156 : Cond.methodLink RX5 156 yX5_tellTown ∈ hw_TB := hw_in 597 (by decide +kernel) rfl
theorem ml_L_127 : Cond.methodLink RL 127 yL_fetch ∈ hw_TB := hw_in 601 (by decide +kernel) rfl
theorem ml_L_38 : Cond.methodLink RL 38 yX5_fetch ∈ hw_TB := hw_in 604 (by decide +kernel) rfl
theorem ml_X5_165 : Cond.methodLink RX5 165 yX5_goBack ∈ hw_TB := hw_in 608 (by decide +kernel) rfl
theorem ml_L_130 : Cond.methodLink RL 130 yL_pass ∈ hw_TB := hw_in 612 (by decide +kernel) rfl
theorem ml_L_41 : Cond.methodLink RL 41 yX5_pass ∈ hw_TB := hw_in 615 (by decide +kernel) rfl
theorem ml_X5_168 : Cond.methodLink RX5 168 yX5_passHour ∈ hw_TB := hw_in 619 (by decide +kernel) rfl
theorem ml_X5_310 : Cond.methodLink RX5 310 yX5_endRaids ∈ hw_TB := hw_in 623 (by decide +kernel) rfl
theorem ml_X5_313 : Cond.methodLink RX5 313 yX5_moveMessages ∈ hw_TB := hw_in 627 (by decide +kernel) rfl
theorem ml_X5_316 : Cond.methodLink RX5 316 yX5_sendBackOld ∈ hw_TB := hw_in 631 (by decide +kernel) rfl
theorem ml_X5_325 : Cond.methodLink RX5 325 yX3_isOpen ∈ hw_TB := hw_in 635 (by decide +kernel) rfl
theorem ml_X5_319 : Cond.methodLink RX5 319 yX5_giveBack ∈ hw_TB := hw_in 639 (by decide +kernel) rfl
theorem ml_X5_322 : Cond.methodLink RX5 322 yX5_receiveCouriers ∈ hw_TB := hw_in 643 (by decide +kernel) rfl
theorem ml_L_133 : Cond.methodLink RL 133 yL_pay ∈ hw_TB := hw_in 647 (by decide +kernel) rfl
theorem ml_L_44 : Cond.methodLink RL 44 yX5_pay ∈ hw_TB := hw_in 650 (by decide +kernel) rfl
theorem ml_L_136 : Cond.methodLink RL 136 yL_deliver ∈ hw_TB := hw_in 654 (by decide +kernel) rfl
theorem ml_L_47 : Cond.methodLink RL 47 yX5_deliver ∈ hw_TB := hw_in 657 (by decide +kernel) rfl
theorem ml_L_139 : Cond.methodLink RL 139 yL_courier ∈ hw_TB := hw_in 661 (by decide +kernel) rfl
theorem ml_L_50 : Cond.methodLink RL 50 yX5_courier ∈ hw_TB := hw_in 664 (by decide +kernel) rfl
theorem ml_L_143 : Cond.methodLink RL 143 yL_rob ∈ hw_TB := hw_in 668 (by decide +kernel) rfl
theorem ml_L_54 : Cond.methodLink RL 54 yX5_rob ∈ hw_TB := hw_in 671 (by decide +kernel) rfl
theorem ml_L_151 : Cond.methodLink RL 151 yL_law ∈ hw_TB := hw_in 675 (by decide +kernel) rfl
theorem ml_L_57 : Cond.methodLink RL 57 yX5_law ∈ hw_TB := hw_in 678 (by decide +kernel) rfl
theorem ml_L_154 : Cond.methodLink RL 154 yL_list ∈ hw_TB := hw_in 682 (by decide +kernel) rfl
theorem ml_L_60 : Cond.methodLink RL 60 yX5_list ∈ hw_TB := hw_in 685 (by decide +kernel) rfl
theorem ml_L_157 : Cond.methodLink RL 157 yL_brokerOf ∈ hw_TB := hw_in 689 (by decide +kernel) rfl
theorem ml_L_64 : Cond.methodLink RL 64 yX5_brokerOf ∈ hw_TB := hw_in 692 (by decide +kernel) rfl
theorem ml_X5_202 : Cond.methodLink RX5 202 yX5_worthOf ∈ hw_TB := hw_in 696 (by decide +kernel) rfl
theorem ml_L_160 : Cond.methodLink RL 160 yL_debt ∈ hw_TB := hw_in 700 (by decide +kernel) rfl
theorem ml_L_68 : Cond.methodLink RL 68 yX5_debt ∈ hw_TB := hw_in 703 (by decide +kernel) rfl
theorem ml_L_164 : Cond.methodLink RL 164 yL_agree ∈ hw_TB := hw_in 707 (by decide +kernel) rfl
theorem ml_L_72 : Cond.methodLink RL 72 yX5_agree ∈ hw_TB := hw_in 710 (by decide +kernel) rfl
theorem ml_L_167 : Cond.methodLink RL 167 yL_way ∈ hw_TB := hw_in 714 (by decide +kernel) rfl
theorem ml_L_76 : Cond.methodLink RL 76 yX5_way ∈ hw_TB := hw_in 717 (by decide +kernel) rfl
theorem ml_X5_209 : Cond.methodLink RX5 209 yX5_requirePlace ∈ hw_TB := hw_in 721 (by decide +kernel) rfl
theorem ml_L_170 : Cond.methodLink RL 170 yL_wayOf ∈ hw_TB := hw_in 725 (by decide +kernel) rfl
theorem ml_L_79 : Cond.methodLink RL 79 yX5_wayOf ∈ hw_TB := hw_in 728 (by decide +kernel) rfl
theorem ml_X5_218 : Cond.methodLink RX5 218 yX3_brokerAt ∈ hw_TB := hw_in 732 (by decide +kernel) rfl
theorem ml_L_173 : Cond.methodLink RL 173 yL_orderOf ∈ hw_TB := hw_in 736 (by decide +kernel) rfl
theorem ml_L_82 : Cond.methodLink RL 82 yX5_orderOf ∈ hw_TB := hw_in 739 (by decide +kernel) rfl
theorem ml_L_180 : Cond.methodLink RL 180 yL_sum ∈ hw_TB := hw_in 743 (by decide +kernel) rfl
theorem ml_L_85 : Cond.methodLink RL 85 yX5_sum ∈ hw_TB := hw_in 746 (by decide +kernel) rfl
theorem ml_X5_227 : Cond.methodLink RX5 227 yX5_sumGiven ∈ hw_TB := hw_in 750 (by decide +kernel) rfl
theorem ml_X5_231 : Cond.methodLink RX5 231 yX5_sumPaidOut ∈ hw_TB := hw_in 754 (by decide +kernel) rfl
theorem ml_X5_234 : Cond.methodLink RX5 234 yX5_sumGivenIn ∈ hw_TB := hw_in 758 (by decide +kernel) rfl
theorem ml_X5_237 : Cond.methodLink RX5 237 yX5_sumRobbed ∈ hw_TB := hw_in 762 (by decide +kernel) rfl
theorem ml_X5_240 : Cond.methodLink RX5 240 yX5_sumOnRoad ∈ hw_TB := hw_in 766 (by decide +kernel) rfl
theorem ml_X5_243 : Cond.methodLink RX5 243 yX5_sumCash ∈ hw_TB := hw_in 770 (by decide +kernel) rfl
theorem ml_L_92 : Cond.methodLink RL 92 yX6_init ∈ hw_TB := hw_in 776 (by decide +kernel) rfl
theorem ml_L_99 : Cond.methodLink RL 99 yX6_thrown ∈ hw_TB := hw_in 896 (by decide +kernel) rfl
theorem ml_L_98 : Cond.methodLink RL 98 yX6_broker ∈ hw_TB := hw_in 900 (by decide +kernel) rfl
theorem ml_X6_116 : Cond.methodLink RX6 116 yX6_in ∈ hw_TB := hw_in 904 (by decide +kernel) rfl
theorem ml_X6_124 : Cond.methodLink RX6 124 yX6_goesWell ∈ hw_TB := hw_in 907 (by decide +kernel) rfl
theorem ml_L_106 : Cond.methodLink RL 106 yX6_rate ∈ hw_TB := hw_in 911 (by decide +kernel) rfl
theorem ml_X6_120 : Cond.methodLink RX6 120 yX6_isBroker ∈ hw_TB := hw_in 915 (by decide +kernel) rfl
theorem ml_L_110 : Cond.methodLink RL 110 yX6_trust ∈ hw_TB := hw_in 919 (by decide +kernel) rfl
theorem ml_X6_127 : Cond.methodLink RX6 127 yX6_areBrokers ∈ hw_TB := hw_in 923 (by decide +kernel) rfl
theorem ml_L_115 : Cond.methodLink RL 115 yX6_festival ∈ hw_TB := hw_in 927 (by decide +kernel) rfl
theorem ml_L_119 : Cond.methodLink RL 119 yX6_breakWord ∈ hw_TB := hw_in 931 (by decide +kernel) rfl
theorem ml_X6_166 : Cond.methodLink RX6 166 yX6_firstOf ∈ hw_TB := hw_in 935 (by decide +kernel) rfl
theorem ml_X6_162 : Cond.methodLink RX6 162 yX6_takeBack ∈ hw_TB := hw_in 939 (by decide +kernel) rfl
theorem ml_X6_139 : Cond.methodLink RX6 139 yX6_oweOn ∈ hw_TB := hw_in 943 (by decide +kernel) rfl
theorem ml_X6_135 : Cond.methodLink RX6 135 yX6_owe ∈ hw_TB := hw_in 947 (by decide +kernel) rfl
theorem ml_X6_191 : Cond.methodLink RX6 191 yX6_failsFor ∈ hw_TB := hw_in 951 (by decide +kernel) rfl
theorem ml_X6_184 : Cond.methodLink RX6 184 yX6_placeOn ∈ hw_TB := hw_in 955 (by decide +kernel) rfl
theorem ml_X6_188 : Cond.methodLink RX6 188 yX6_goElsewhere ∈ hw_TB := hw_in 959 (by decide +kernel) rfl
theorem ml_X6_170 : Cond.methodLink RX6 170 yX6_findWay ∈ hw_TB := hw_in 963 (by decide +kernel) rfl
theorem ml_X6_159 : Cond.methodLink RX6 159 yX6_findWays ∈ hw_TB := hw_in 967 (by decide +kernel) rfl
theorem ml_X6_153 : Cond.methodLink RX6 153 yX6_feeOf ∈ hw_TB := hw_in 971 (by decide +kernel) rfl
theorem ml_X6_156 : Cond.methodLink RX6 156 yX6_canOwe ∈ hw_TB := hw_in 977 (by decide +kernel) rfl
theorem ml_X6_149 : Cond.methodLink RX6 149 yX6_limitOf ∈ hw_TB := hw_in 981 (by decide +kernel) rfl
theorem ml_X6_174 : Cond.methodLink RX6 174 yX6_lay ∈ hw_TB := hw_in 986 (by decide +kernel) rfl
theorem ml_X6_177 : Cond.methodLink RX6 177 yX6_goBack ∈ hw_TB := hw_in 990 (by decide +kernel) rfl
theorem ml_L_122 : Cond.methodLink RL 122 yX6_raid ∈ hw_TB := hw_in 994 (by decide +kernel) rfl
theorem ml_L_126 : Cond.methodLink RL 126 yX6_order ∈ hw_TB := hw_in 998 (by decide +kernel) rfl
theorem ml_L_129 : Cond.methodLink RL 129 yX6_fetch ∈ hw_TB := hw_in 1002 (by decide +kernel) rfl
theorem ml_X6_197 : Cond.methodLink RX6 197 yX6_isOrder ∈ hw_TB := hw_in 1006 (by decide +kernel) rfl
theorem ml_L_132 : Cond.methodLink RL 132 yX6_pass ∈ hw_TB := hw_in 1010 (by decide +kernel) rfl
theorem ml_X6_213 : Cond.methodLink RX6 213 yX6_nextHour ∈ hw_TB := hw_in 1014 (by decide +kernel) rfl
theorem ml_X6_207 : Cond.methodLink RX6 207 yX6_move ∈ hw_TB := hw_in 1018 (by decide +kernel) rfl
theorem ml_X6_210 : Cond.methodLink RX6 210 yX6_comeAll ∈ hw_TB := hw_in 1022 (by decide +kernel) rfl
theorem ml_X6_203 : Cond.methodLink RX6 203 yX6_oweBoth ∈ hw_TB := hw_in 1026 (by decide +kernel) rfl
theorem ml_L_135 : Cond.methodLink RL 135 yX6_pay ∈ hw_TB := hw_in 1030 (by decide +kernel) rfl
theorem ml_L_138 : Cond.methodLink RL 138 yX6_deliver ∈ hw_TB := hw_in 1034 (by decide +kernel) rfl
theorem ml_L_142 : Cond.methodLink RL 142 yX6_courier ∈ hw_TB := hw_in 1038 (by decide +kernel) rfl
theorem ml_L_145 : Cond.methodLink RL 145 yX6_rob ∈ hw_TB := hw_in 1042 (by decide +kernel) rfl
theorem ml_L_150 : Cond.methodLink RL 150 yX6_ring ∈ hw_TB := hw_in 1046 (by decide +kernel) rfl
theorem ml_X6_216 : Cond.methodLink RX6 216 yX6_clear ∈ hw_TB := hw_in 1050 (by decide +kernel) rfl
theorem ml_L_153 : Cond.methodLink RL 153 yX6_law ∈ hw_TB := hw_in 1054 (by decide +kernel) rfl
theorem ml_L_156 : Cond.methodLink RL 156 yX6_list ∈ hw_TB := hw_in 1058 (by decide +kernel) rfl
theorem ml_L_159 : Cond.methodLink RL 159 yX6_brokerOf ∈ hw_TB := hw_in 1062 (by decide +kernel) rfl
theorem ml_L_163 : Cond.methodLink RL 163 yX6_debt ∈ hw_TB := hw_in 1066 (by decide +kernel) rfl
theorem ml_L_166 : Cond.methodLink RL 166 yX6_agree ∈ hw_TB := hw_in 1070 (by decide +kernel) rfl
theorem ml_L_169 : Cond.methodLink RL 169 yX6_way ∈ hw_TB := hw_in 1074 (by decide +kernel) rfl
theorem ml_L_172 : Cond.methodLink RL 172 yX6_wayOf ∈ hw_TB := hw_in 1078 (by decide +kernel) rfl
theorem ml_L_175 : Cond.methodLink RL 175 yX6_orderOf ∈ hw_TB := hw_in 1082 (by decide +kernel) rfl
theorem ml_L_179 : Cond.methodLink RL 179 yX6_inquiry ∈ hw_TB := hw_in 1086 (by decide +kernel) rfl
theorem ml_L_182 : Cond.methodLink RL 182 yX6_sum ∈ hw_TB := hw_in 1090 (by decide +kernel) rfl
