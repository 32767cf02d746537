/-! links, methods, rooms: by program -/
theorem hw_in1 {w : Cond} (h : w ∈ tables_1_1) (g : goodWord w = true) : w ∈ hw_TB := List.mem_filter.mpr ⟨List.mem_append.mpr (Or.inr (List.mem_append.mpr (Or.inl h))), g⟩
theorem hw_in2 {w : Cond} (h : w ∈ tables_1_2) (g : goodWord w = true) : w ∈ hw_TB := List.mem_filter.mpr ⟨List.mem_append.mpr (Or.inr (List.mem_append.mpr (Or.inr (List.mem_append.mpr (Or.inl h))))), g⟩
theorem hw_in3 {w : Cond} (h : w ∈ tables_1_3) (g : goodWord w = true) : w ∈ hw_TB := List.mem_filter.mpr ⟨List.mem_append.mpr (Or.inr (List.mem_append.mpr (Or.inr (List.mem_append.mpr (Or.inr (List.mem_append.mpr (Or.inl h))))))), g⟩
theorem hw_in4 {w : Cond} (h : w ∈ tables_1_4) (g : goodWord w = true) : w ∈ hw_TB := List.mem_filter.mpr ⟨List.mem_append.mpr (Or.inr (List.mem_append.mpr (Or.inr (List.mem_append.mpr (Or.inr (List.mem_append.mpr (Or.inr h))))))), g⟩
theorem fr_X5_74 : hw_FR RX5 74 0 0 := ⟨_, _, _, rfl, by decide, hw_in 63 (by decide +kernel) rfl⟩
theorem fl_X5_74 : hw_FL RX5 74 0 0 .int false := ⟨_, _, _, rfl, by decide, hw_in 63 (by decide +kernel) rfl, by decide +kernel, rfl, (fun h => by cases h)⟩
theorem fr_X5_77 : hw_FR RX5 77 0 1 := ⟨_, _, _, rfl, by decide, hw_in 64 (by decide +kernel) rfl⟩
theorem fl_X5_77 : hw_FL RX5 77 0 1 .long false := ⟨_, _, _, rfl, by decide, hw_in 64 (by decide +kernel) rfl, by decide +kernel, rfl, (fun h => by cases h)⟩
theorem fr_X5_81 : hw_FR RX5 81 0 2 := ⟨_, _, _, rfl, by decide, hw_in 65 (by decide +kernel) rfl⟩
theorem fl_X5_81 : hw_FL RX5 81 0 2 .int false := ⟨_, _, _, rfl, by decide, hw_in 65 (by decide +kernel) rfl, by decide +kernel, rfl, (fun h => by cases h)⟩
theorem fr_X4_67 : hw_FR RX4 67 0 2 := ⟨_, _, _, rfl, by decide, hw_in 66 (by decide +kernel) rfl⟩
theorem fl_X4_67 : hw_FL RX4 67 0 2 .int false := ⟨_, _, _, rfl, by decide, hw_in 66 (by decide +kernel) rfl, by decide +kernel, rfl, (fun h => by cases h)⟩
theorem fr_X0_19 : hw_FR RX0 19 0 3 := ⟨_, _, _, rfl, by decide, hw_in 67 (by decide +kernel) rfl⟩
theorem fl_X0_19 : hw_FL RX0 19 0 3 .int false := ⟨_, _, _, rfl, by decide, hw_in 67 (by decide +kernel) rfl, by decide +kernel, rfl, (fun h => by cases h)⟩
theorem fr_X5_97 : hw_FR RX5 97 0 3 := ⟨_, _, _, rfl, by decide, hw_in 68 (by decide +kernel) rfl⟩
theorem fl_X5_97 : hw_FL RX5 97 0 3 .int false := ⟨_, _, _, rfl, by decide, hw_in 68 (by decide +kernel) rfl, by decide +kernel, rfl, (fun h => by cases h)⟩
theorem fr_X5_115 : hw_FR RX5 115 0 4 := ⟨_, _, _, rfl, by decide, hw_in 69 (by decide +kernel) rfl⟩
theorem fl_X5_115 : hw_FL RX5 115 0 4 .int false := ⟨_, _, _, rfl, by decide, hw_in 69 (by decide +kernel) rfl, by decide +kernel, rfl, (fun h => by cases h)⟩
theorem fr_X5_118 : hw_FR RX5 118 0 5 := ⟨_, _, _, rfl, by decide, hw_in 70 (by decide +kernel) rfl⟩
theorem fl_X5_118 : hw_FL RX5 118 0 5 .boolean false := ⟨_, _, _, rfl, by decide, hw_in 70 (by decide +kernel) rfl, by decide +kernel, rfl, (fun h => by cases h)⟩
theorem fr_X0_9 : hw_FR RX0 9 0 6 := ⟨_, _, _, rfl, by decide, hw_in 71 (by decide +kernel) rfl⟩
theorem fl_X0_9 : hw_FL RX0 9 0 6 (.array .int) true := ⟨_, _, _, rfl, by decide, hw_in 71 (by decide +kernel) rfl, by decide +kernel, rfl, (fun _ => rfl)⟩
theorem fr_X5_87 : hw_FR RX5 87 0 6 := ⟨_, _, _, rfl, by decide, hw_in 72 (by decide +kernel) rfl⟩
theorem fr_X0_15 : hw_FR RX0 15 0 7 := ⟨_, _, _, rfl, by decide, hw_in 73 (by decide +kernel) rfl⟩
theorem fl_X0_15 : hw_FL RX0 15 0 7 (.array .boolean) true := ⟨_, _, _, rfl, by decide, hw_in 73 (by decide +kernel) rfl, by decide +kernel, rfl, (fun _ => rfl)⟩
theorem fr_X5_90 : hw_FR RX5 90 0 7 := ⟨_, _, _, rfl, by decide, hw_in 74 (by decide +kernel) rfl⟩
theorem fr_X3_34 : hw_FR RX3 34 3 0 := ⟨_, _, _, rfl, by decide, hw_in 101 (by decide +kernel) rfl⟩
theorem fl_X3_34 : hw_FL RX3 34 3 0 .int false := ⟨_, _, _, rfl, by decide, hw_in 101 (by decide +kernel) rfl, by decide +kernel, rfl, (fun h => by cases h)⟩
theorem fr_X5_131 : hw_FR RX5 131 3 0 := ⟨_, _, _, rfl, by decide, hw_in 102 (by decide +kernel) rfl⟩
theorem fl_X5_131 : hw_FL RX5 131 3 0 .int false := ⟨_, _, _, rfl, by decide, hw_in 102 (by decide +kernel) rfl, by decide +kernel, rfl, (fun h => by cases h)⟩
theorem fr_X5_134 : hw_FR RX5 134 3 1 := ⟨_, _, _, rfl, by decide, hw_in 103 (by decide +kernel) rfl⟩
theorem fl_X5_134 : hw_FL RX5 134 3 1 .int false := ⟨_, _, _, rfl, by decide, hw_in 103 (by decide +kernel) rfl, by decide +kernel, rfl, (fun h => by cases h)⟩
theorem fr_X5_145 : hw_FR RX5 145 3 2 := ⟨_, _, _, rfl, by decide, hw_in 104 (by decide +kernel) rfl⟩
theorem fl_X5_145 : hw_FL RX5 145 3 2 .int false := ⟨_, _, _, rfl, by decide, hw_in 104 (by decide +kernel) rfl, by decide +kernel, rfl, (fun h => by cases h)⟩
theorem fr_X5_137 : hw_FR RX5 137 3 3 := ⟨_, _, _, rfl, by decide, hw_in 105 (by decide +kernel) rfl⟩
theorem fl_X5_137 : hw_FL RX5 137 3 3 .int false := ⟨_, _, _, rfl, by decide, hw_in 105 (by decide +kernel) rfl, by decide +kernel, rfl, (fun h => by cases h)⟩
theorem fr_X3_22 : hw_FR RX3 22 3 4 := ⟨_, _, _, rfl, by decide, hw_in 106 (by decide +kernel) rfl⟩
theorem fl_X3_22 : hw_FL RX3 22 3 4 .int false := ⟨_, _, _, rfl, by decide, hw_in 106 (by decide +kernel) rfl, by decide +kernel, rfl, (fun h => by cases h)⟩
theorem fr_X5_140 : hw_FR RX5 140 3 4 := ⟨_, _, _, rfl, by decide, hw_in 107 (by decide +kernel) rfl⟩
theorem fl_X5_140 : hw_FL RX5 140 3 4 .int false := ⟨_, _, _, rfl, by decide, hw_in 107 (by decide +kernel) rfl, by decide +kernel, rfl, (fun h => by cases h)⟩
theorem fr_X3_25 : hw_FR RX3 25 3 5 := ⟨_, _, _, rfl, by decide, hw_in 108 (by decide +kernel) rfl⟩
theorem fl_X3_25 : hw_FL RX3 25 3 5 .int false := ⟨_, _, _, rfl, by decide, hw_in 108 (by decide +kernel) rfl, by decide +kernel, rfl, (fun h => by cases h)⟩
theorem fr_X5_221 : hw_FR RX5 221 3 5 := ⟨_, _, _, rfl, by decide, hw_in 109 (by decide +kernel) rfl⟩
theorem fl_X5_221 : hw_FL RX5 221 3 5 .int false := ⟨_, _, _, rfl, by decide, hw_in 109 (by decide +kernel) rfl, by decide +kernel, rfl, (fun h => by cases h)⟩
theorem fr_X5_162 : hw_FR RX5 162 3 6 := ⟨_, _, _, rfl, by decide, hw_in 110 (by decide +kernel) rfl⟩
theorem fl_X5_162 : hw_FL RX5 162 3 6 .int false := ⟨_, _, _, rfl, by decide, hw_in 110 (by decide +kernel) rfl, by decide +kernel, rfl, (fun h => by cases h)⟩
theorem fr_X3_18 : hw_FR RX3 18 3 7 := ⟨_, _, _, rfl, by decide, hw_in 111 (by decide +kernel) rfl⟩
theorem fl_X3_18 : hw_FL RX3 18 3 7 .int false := ⟨_, _, _, rfl, by decide, hw_in 111 (by decide +kernel) rfl, by decide +kernel, rfl, (fun h => by cases h)⟩
theorem fr_X5_275 : hw_FR RX5 275 3 7 := ⟨_, _, _, rfl, by decide, hw_in 112 (by decide +kernel) rfl⟩
theorem fl_X5_275 : hw_FL RX5 275 3 7 .int false := ⟨_, _, _, rfl, by decide, hw_in 112 (by decide +kernel) rfl, by decide +kernel, rfl, (fun h => by cases h)⟩
theorem fr_X3_9 : hw_FR RX3 9 3 8 := ⟨_, _, _, rfl, by decide, hw_in 113 (by decide +kernel) rfl⟩
theorem fl_X3_9 : hw_FL RX3 9 3 8 (.array .int) true := ⟨_, _, _, rfl, by decide, hw_in 113 (by decide +kernel) rfl, by decide +kernel, rfl, (fun _ => rfl)⟩
theorem fr_X5_276 : hw_FR RX5 276 3 8 := ⟨_, _, _, rfl, by decide, hw_in 114 (by decide +kernel) rfl⟩
theorem fr_X3_15 : hw_FR RX3 15 3 9 := ⟨_, _, _, rfl, by decide, hw_in 115 (by decide +kernel) rfl⟩
theorem fl_X3_15 : hw_FL RX3 15 3 9 (.array .int) true := ⟨_, _, _, rfl, by decide, hw_in 115 (by decide +kernel) rfl, by decide +kernel, rfl, (fun _ => rfl)⟩
theorem fr_X5_278 : hw_FR RX5 278 3 9 := ⟨_, _, _, rfl, by decide, hw_in 116 (by decide +kernel) rfl⟩
theorem fr_X5_182 : hw_FR RX5 182 1 0 := ⟨_, _, _, rfl, by decide, hw_in 145 (by decide +kernel) rfl⟩
theorem fl_X5_182 : hw_FL RX5 182 1 0 .int false := ⟨_, _, _, rfl, by decide, hw_in 145 (by decide +kernel) rfl, by decide +kernel, rfl, (fun h => by cases h)⟩
theorem fr_X5_185 : hw_FR RX5 185 1 1 := ⟨_, _, _, rfl, by decide, hw_in 146 (by decide +kernel) rfl⟩
theorem fl_X5_185 : hw_FL RX5 185 1 1 .int false := ⟨_, _, _, rfl, by decide, hw_in 146 (by decide +kernel) rfl, by decide +kernel, rfl, (fun h => by cases h)⟩
theorem fr_X5_188 : hw_FR RX5 188 1 2 := ⟨_, _, _, rfl, by decide, hw_in 147 (by decide +kernel) rfl⟩
theorem fl_X5_188 : hw_FL RX5 188 1 2 .int false := ⟨_, _, _, rfl, by decide, hw_in 147 (by decide +kernel) rfl, by decide +kernel, rfl, (fun h => by cases h)⟩
theorem fr_X5_189 : hw_FR RX5 189 1 3 := ⟨_, _, _, rfl, by decide, hw_in 148 (by decide +kernel) rfl⟩
theorem fl_X5_189 : hw_FL RX5 189 1 3 .int false := ⟨_, _, _, rfl, by decide, hw_in 148 (by decide +kernel) rfl, by decide +kernel, rfl, (fun h => by cases h)⟩
theorem fr_X5_192 : hw_FR RX5 192 1 4 := ⟨_, _, _, rfl, by decide, hw_in 149 (by decide +kernel) rfl⟩
theorem fl_X5_192 : hw_FL RX5 192 1 4 .boolean false := ⟨_, _, _, rfl, by decide, hw_in 149 (by decide +kernel) rfl, by decide +kernel, rfl, (fun h => by cases h)⟩
theorem fr_X5_195 : hw_FR RX5 195 1 5 := ⟨_, _, _, rfl, by decide, hw_in 150 (by decide +kernel) rfl⟩
theorem fl_X5_195 : hw_FL RX5 195 1 5 .boolean false := ⟨_, _, _, rfl, by decide, hw_in 150 (by decide +kernel) rfl, by decide +kernel, rfl, (fun h => by cases h)⟩
theorem fr_X2_11 : hw_FR RX2 11 2 0 := ⟨_, _, _, rfl, by decide, hw_in 172 (by decide +kernel) rfl⟩
theorem fl_X2_11 : hw_FL RX2 11 2 0 (.array (.array .long)) true := ⟨_, _, _, rfl, by decide, hw_in 172 (by decide +kernel) rfl, by decide +kernel, rfl, (fun _ => rfl)⟩
theorem fr_X4_70 : hw_FR RX4 70 2 0 := ⟨_, _, _, rfl, by decide, hw_in 173 (by decide +kernel) rfl⟩
theorem fr_X5_171 : hw_FR RX5 171 2 0 := ⟨_, _, _, rfl, by decide, hw_in 174 (by decide +kernel) rfl⟩
theorem fr_X2_16 : hw_FR RX2 16 2 1 := ⟨_, _, _, rfl, by decide, hw_in 175 (by decide +kernel) rfl⟩
theorem fl_X2_16 : hw_FL RX2 16 2 1 (.array (.array .long)) true := ⟨_, _, _, rfl, by decide, hw_in 175 (by decide +kernel) rfl, by decide +kernel, rfl, (fun _ => rfl)⟩
theorem fr_X5_206 : hw_FR RX5 206 2 1 := ⟨_, _, _, rfl, by decide, hw_in 176 (by decide +kernel) rfl⟩
theorem fr_X4_31 : hw_FR RX4 31 4 0 := ⟨_, _, _, rfl, by decide, hw_in 189 (by decide +kernel) rfl⟩
theorem fl_X4_31 : hw_FL RX4 31 4 0 (.array (.object "HundiHall$Broker")) true := ⟨_, _, _, rfl, by decide, hw_in 189 (by decide +kernel) rfl, by decide +kernel, rfl, (fun _ => rfl)⟩
theorem fr_X4_35 : hw_FR RX4 35 4 1 := ⟨_, _, _, rfl, by decide, hw_in 190 (by decide +kernel) rfl⟩
theorem fl_X4_35 : hw_FL RX4 35 4 1 (.object "HundiHall$Ledger") true := ⟨_, _, _, rfl, by decide, hw_in 190 (by decide +kernel) rfl, by decide +kernel, rfl, (fun _ => rfl)⟩
theorem fr_X4_9 : hw_FR RX4 9 4 2 := ⟨_, _, _, rfl, by decide, hw_in 191 (by decide +kernel) rfl⟩
theorem fl_X4_9 : hw_FL RX4 9 4 2 (.array .boolean) true := ⟨_, _, _, rfl, by decide, hw_in 191 (by decide +kernel) rfl, by decide +kernel, rfl, (fun _ => rfl)⟩
theorem fr_X4_15 : hw_FR RX4 15 4 3 := ⟨_, _, _, rfl, by decide, hw_in 192 (by decide +kernel) rfl⟩
theorem fl_X4_15 : hw_FL RX4 15 4 3 (.array .boolean) true := ⟨_, _, _, rfl, by decide, hw_in 192 (by decide +kernel) rfl, by decide +kernel, rfl, (fun _ => rfl)⟩
theorem fr_X4_18 : hw_FR RX4 18 4 4 := ⟨_, _, _, rfl, by decide, hw_in 193 (by decide +kernel) rfl⟩
theorem fl_X4_18 : hw_FL RX4 18 4 4 (.array .boolean) true := ⟨_, _, _, rfl, by decide, hw_in 193 (by decide +kernel) rfl, by decide +kernel, rfl, (fun _ => rfl)⟩
theorem fr_X4_21 : hw_FR RX4 21 4 5 := ⟨_, _, _, rfl, by decide, hw_in 194 (by decide +kernel) rfl⟩
theorem fl_X4_21 : hw_FL RX4 21 4 5 (.array .int) true := ⟨_, _, _, rfl, by decide, hw_in 194 (by decide +kernel) rfl, by decide +kernel, rfl, (fun _ => rfl)⟩
theorem fr_X3_37 : hw_FR RX3 37 4 5 := ⟨_, _, _, rfl, by decide, hw_in 195 (by decide +kernel) rfl⟩
theorem fr_X4_25 : hw_FR RX4 25 4 6 := ⟨_, _, _, rfl, by decide, hw_in 196 (by decide +kernel) rfl⟩
theorem fl_X4_25 : hw_FL RX4 25 4 6 (.array .int) true := ⟨_, _, _, rfl, by decide, hw_in 196 (by decide +kernel) rfl, by decide +kernel, rfl, (fun _ => rfl)⟩
theorem fr_X4_28 : hw_FR RX4 28 4 7 := ⟨_, _, _, rfl, by decide, hw_in 197 (by decide +kernel) rfl⟩
theorem fl_X4_28 : hw_FL RX4 28 4 7 (.array .int) true := ⟨_, _, _, rfl, by decide, hw_in 197 (by decide +kernel) rfl, by decide +kernel, rfl, (fun _ => rfl)⟩
theorem fr_X3_31 : hw_FR RX3 31 4 7 := ⟨_, _, _, rfl, by decide, hw_in 198 (by decide +kernel) rfl⟩
theorem fr_X5_215 : hw_FR RX5 215 4 7 := ⟨_, _, _, rfl, by decide, hw_in 199 (by decide +kernel) rfl⟩
theorem fr_X4_53 : hw_FR RX4 53 4 8 := ⟨_, _, _, rfl, by decide, hw_in 200 (by decide +kernel) rfl⟩
theorem fl_X4_53 : hw_FL RX4 53 4 8 .int false := ⟨_, _, _, rfl, by decide, hw_in 200 (by decide +kernel) rfl, by decide +kernel, rfl, (fun h => by cases h)⟩
theorem fr_X3_28 : hw_FR RX3 28 4 8 := ⟨_, _, _, rfl, by decide, hw_in 201 (by decide +kernel) rfl⟩
theorem fl_X3_28 : hw_FL RX3 28 4 8 .int false := ⟨_, _, _, rfl, by decide, hw_in 201 (by decide +kernel) rfl, by decide +kernel, rfl, (fun h => by cases h)⟩
theorem fr_X5_212 : hw_FR RX5 212 4 8 := ⟨_, _, _, rfl, by decide, hw_in 202 (by decide +kernel) rfl⟩
theorem fl_X5_212 : hw_FL RX5 212 4 8 .int false := ⟨_, _, _, rfl, by decide, hw_in 202 (by decide +kernel) rfl, by decide +kernel, rfl, (fun h => by cases h)⟩
theorem fr_X4_39 : hw_FR RX4 39 4 9 := ⟨_, _, _, rfl, by decide, hw_in 203 (by decide +kernel) rfl⟩
theorem fl_X4_39 : hw_FL RX4 39 4 9 .int false := ⟨_, _, _, rfl, by decide, hw_in 203 (by decide +kernel) rfl, by decide +kernel, rfl, (fun h => by cases h)⟩
theorem fr_X4_43 : hw_FR RX4 43 4 10 := ⟨_, _, _, rfl, by decide, hw_in 204 (by decide +kernel) rfl⟩
theorem fl_X4_43 : hw_FL RX4 43 4 10 .boolean false := ⟨_, _, _, rfl, by decide, hw_in 204 (by decide +kernel) rfl, by decide +kernel, rfl, (fun h => by cases h)⟩
theorem wc_X5_50 : Cond.constant RX5 50 1000000 ∈ hw_TB := hw_in 228 (by decide +kernel) rfl
theorem fr_X5_11 : hw_FR RX5 11 5 0 := ⟨_, _, _, rfl, by decide, hw_in 229 (by decide +kernel) rfl⟩
theorem fl_X5_11 : hw_FL RX5 11 5 0 (.array (.object "HundiHall$Broker")) true := ⟨_, _, _, rfl, by decide, hw_in 229 (by decide +kernel) rfl, by decide +kernel, rfl, (fun _ => rfl)⟩
theorem fr_X5_18 : hw_FR RX5 18 5 1 := ⟨_, _, _, rfl, by decide, hw_in 230 (by decide +kernel) rfl⟩
theorem fl_X5_18 : hw_FL RX5 18 5 1 (.array (.object "HundiHall$Order")) true := ⟨_, _, _, rfl, by decide, hw_in 230 (by decide +kernel) rfl, by decide +kernel, rfl, (fun _ => rfl)⟩
theorem fr_X5_25 : hw_FR RX5 25 5 2 := ⟨_, _, _, rfl, by decide, hw_in 231 (by decide +kernel) rfl⟩
theorem fl_X5_25 : hw_FL RX5 25 5 2 (.array (.object "HundiHall$Courier")) true := ⟨_, _, _, rfl, by decide, hw_in 231 (by decide +kernel) rfl, by decide +kernel, rfl, (fun _ => rfl)⟩
theorem fr_X5_33 : hw_FR RX5 33 5 3 := ⟨_, _, _, rfl, by decide, hw_in 232 (by decide +kernel) rfl⟩
theorem fl_X5_33 : hw_FL RX5 33 5 3 (.object "HundiHall$Ledger") true := ⟨_, _, _, rfl, by decide, hw_in 232 (by decide +kernel) rfl, by decide +kernel, rfl, (fun _ => rfl)⟩
theorem fr_X5_42 : hw_FR RX5 42 5 4 := ⟨_, _, _, rfl, by decide, hw_in 233 (by decide +kernel) rfl⟩
theorem fl_X5_42 : hw_FL RX5 42 5 4 (.object "HundiHall$WayFinder") true := ⟨_, _, _, rfl, by decide, hw_in 233 (by decide +kernel) rfl, by decide +kernel, rfl, (fun _ => rfl)⟩
theorem fr_X5_46 : hw_FR RX5 46 5 5 := ⟨_, _, _, rfl, by decide, hw_in 234 (by decide +kernel) rfl⟩
theorem fl_X5_46 : hw_FL RX5 46 5 5 (.array .int) true := ⟨_, _, _, rfl, by decide, hw_in 234 (by decide +kernel) rfl, by decide +kernel, rfl, (fun _ => rfl)⟩
theorem fr_X5_51 : hw_FR RX5 51 5 6 := ⟨_, _, _, rfl, by decide, hw_in 235 (by decide +kernel) rfl⟩
theorem fl_X5_51 : hw_FL RX5 51 5 6 (.array .int) true := ⟨_, _, _, rfl, by decide, hw_in 235 (by decide +kernel) rfl, by decide +kernel, rfl, (fun _ => rfl)⟩
theorem fr_X5_54 : hw_FR RX5 54 5 7 := ⟨_, _, _, rfl, by decide, hw_in 236 (by decide +kernel) rfl⟩
theorem fl_X5_54 : hw_FL RX5 54 5 7 (.array .boolean) true := ⟨_, _, _, rfl, by decide, hw_in 236 (by decide +kernel) rfl, by decide +kernel, rfl, (fun _ => rfl)⟩
theorem fr_X5_66 : hw_FR RX5 66 5 8 := ⟨_, _, _, rfl, by decide, hw_in 237 (by decide +kernel) rfl⟩
theorem fl_X5_66 : hw_FL RX5 66 5 8 .int false := ⟨_, _, _, rfl, by decide, hw_in 237 (by decide +kernel) rfl, by decide +kernel, rfl, (fun h => by cases h)⟩
theorem fr_X5_124 : hw_FR RX5 124 5 9 := ⟨_, _, _, rfl, by decide, hw_in 238 (by decide +kernel) rfl⟩
theorem fl_X5_124 : hw_FL RX5 124 5 9 .int false := ⟨_, _, _, rfl, by decide, hw_in 238 (by decide +kernel) rfl, by decide +kernel, rfl, (fun h => by cases h)⟩
theorem fr_X5_179 : hw_FR RX5 179 5 10 := ⟨_, _, _, rfl, by decide, hw_in 239 (by decide +kernel) rfl⟩
theorem fl_X5_179 : hw_FL RX5 179 5 10 .int false := ⟨_, _, _, rfl, by decide, hw_in 239 (by decide +kernel) rfl, by decide +kernel, rfl, (fun h => by cases h)⟩
theorem fr_X5_112 : hw_FR RX5 112 5 11 := ⟨_, _, _, rfl, by decide, hw_in 240 (by decide +kernel) rfl⟩
theorem fl_X5_112 : hw_FL RX5 112 5 11 .int false := ⟨_, _, _, rfl, by decide, hw_in 240 (by decide +kernel) rfl, by decide +kernel, rfl, (fun h => by cases h)⟩
theorem fr_X5_93 : hw_FR RX5 93 5 12 := ⟨_, _, _, rfl, by decide, hw_in 241 (by decide +kernel) rfl⟩
theorem fl_X5_93 : hw_FL RX5 93 5 12 .boolean false := ⟨_, _, _, rfl, by decide, hw_in 241 (by decide +kernel) rfl, by decide +kernel, rfl, (fun h => by cases h)⟩
theorem fr_X5_121 : hw_FR RX5 121 5 13 := ⟨_, _, _, rfl, by decide, hw_in 242 (by decide +kernel) rfl⟩
theorem fl_X5_121 : hw_FL RX5 121 5 13 .long false := ⟨_, _, _, rfl, by decide, hw_in 242 (by decide +kernel) rfl, by decide +kernel, rfl, (fun h => by cases h)⟩
theorem wc_L_7 : Cond.constant RL 7 2147483647 ∈ hw_TB := hw_in 377 (by decide +kernel) rfl
theorem wc_L_16 : Cond.constantLong RL 16 (-9000000000000000) ∈ hw_TB := hw_in 429 (by decide +kernel) rfl
theorem wc_L_157 : Cond.constantLong RL 157 (5) ∈ hw_TB := hw_in 764 (by decide +kernel) rfl
abbrev rX5_init : Room := { frames := 2, cells := 0, slots := 0, locals := 38 }
abbrev wX5_init : Cond := .code yX5_init cX5_init 2 none
theorem wi_X5_init : hw_WI yX5_init wX5_init 0 := ⟨⟨hw_in 52 (by decide +kernel) rfl, hw_in 51 (by decide +kernel) rfl, hw_in 35 (by decide +kernel) rfl⟩, by decide +kernel⟩
abbrev rX5_broker : Room := { frames := 7, cells := 4, slots := 24, locals := 104 }
abbrev wX5_broker : Cond := .code yX5_broker cX5_broker 5 (some .int)
theorem wv_X5_broker : hw_WV RX5 yX5_broker wX5_broker 3 := ⟨⟨hw_in 390 (by decide +kernel) rfl, hw_in 388 (by decide +kernel) rfl, hw_in 389 (by decide +kernel) rfl, hw_in 35 (by decide +kernel) rfl⟩, by decide +kernel⟩
abbrev rX5_rate : Room := { frames := 7, cells := 2, slots := 12, locals := 104 }
abbrev wX5_rate : Cond := .code yX5_rate cX5_rate 4 (some .int)
theorem wv_X5_rate : hw_WV RX5 yX5_rate wX5_rate 2 := ⟨⟨hw_in 436 (by decide +kernel) rfl, hw_in 434 (by decide +kernel) rfl, hw_in 435 (by decide +kernel) rfl, hw_in 35 (by decide +kernel) rfl⟩, by decide +kernel⟩
abbrev rX5_trust : Room := { frames := 8, cells := 4, slots := 24, locals := 125 }
abbrev wX5_trust : Cond := .code yX5_trust cX5_trust 5 none
theorem wv_X5_trust : hw_WV RX5 yX5_trust wX5_trust 4 := ⟨⟨hw_in 443 (by decide +kernel) rfl, hw_in 441 (by decide +kernel) rfl, hw_in 442 (by decide +kernel) rfl, hw_in 35 (by decide +kernel) rfl⟩, by decide +kernel⟩
abbrev rX5_festival : Room := { frames := 0, cells := 0, slots := 0, locals := 0 }
abbrev wX5_festival : Cond := .code yX5_festival cX5_festival 1 (some .boolean)
theorem wv_X5_festival : hw_WV RX5 yX5_festival wX5_festival 0 := ⟨⟨hw_in 563 (by decide +kernel) rfl, hw_in 561 (by decide +kernel) rfl, hw_in 562 (by decide +kernel) rfl, hw_in 35 (by decide +kernel) rfl⟩, by decide +kernel⟩
abbrev rX5_breakWord : Room := { frames := 7, cells := 2, slots := 12, locals := 161 }
abbrev wX5_breakWord : Cond := .code yX5_breakWord cX5_breakWord 3 (some .int)
theorem wv_X5_breakWord : hw_WV RX5 yX5_breakWord wX5_breakWord 1 := ⟨⟨hw_in 455 (by decide +kernel) rfl, hw_in 453 (by decide +kernel) rfl, hw_in 454 (by decide +kernel) rfl, hw_in 35 (by decide +kernel) rfl⟩, by decide +kernel⟩
abbrev rX5_raid : Room := { frames := 7, cells := 2, slots := 12, locals := 161 }
abbrev wX5_raid : Cond := .code yX5_raid cX5_raid 5 (some .int)
theorem wv_X5_raid : hw_WV RX5 yX5_raid wX5_raid 1 := ⟨⟨hw_in 570 (by decide +kernel) rfl, hw_in 568 (by decide +kernel) rfl, hw_in 569 (by decide +kernel) rfl, hw_in 35 (by decide +kernel) rfl⟩, by decide +kernel⟩
abbrev rX5_order : Room := { frames := 8, cells := 9, slots := 54, locals := 138 }
abbrev wX5_order : Cond := .code yX5_order cX5_order 7 (some .int)
theorem wv_X5_order : hw_WV RX5 yX5_order wX5_order 5 := ⟨⟨hw_in 585 (by decide +kernel) rfl, hw_in 583 (by decide +kernel) rfl, hw_in 584 (by decide +kernel) rfl, hw_in 35 (by decide +kernel) rfl⟩, by decide +kernel⟩
abbrev rX5_fetch : Room := { frames := 7, cells := 4, slots := 24, locals := 104 }
abbrev wX5_fetch : Cond := .code yX5_fetch cX5_fetch 5 (some .int)
theorem wv_X5_fetch : hw_WV RX5 yX5_fetch wX5_fetch 2 := ⟨⟨hw_in 604 (by decide +kernel) rfl, hw_in 602 (by decide +kernel) rfl, hw_in 603 (by decide +kernel) rfl, hw_in 35 (by decide +kernel) rfl⟩, by decide +kernel⟩
abbrev rX5_pass : Room := { frames := 7, cells := 1, slots := 6, locals := 112 }
abbrev wX5_pass : Cond := .code yX5_pass cX5_pass 3 (some .int)
theorem wv_X5_pass : hw_WV RX5 yX5_pass wX5_pass 1 := ⟨⟨hw_in 615 (by decide +kernel) rfl, hw_in 613 (by decide +kernel) rfl, hw_in 614 (by decide +kernel) rfl, hw_in 35 (by decide +kernel) rfl⟩, by decide +kernel⟩
abbrev rX5_pay : Room := { frames := 8, cells := 7, slots := 42, locals := 125 }
abbrev wX5_pay : Cond := .code yX5_pay cX5_pay 4 (some .int)
theorem wv_X5_pay : hw_WV RX5 yX5_pay wX5_pay 3 := ⟨⟨hw_in 656 (by decide +kernel) rfl, hw_in 654 (by decide +kernel) rfl, hw_in 655 (by decide +kernel) rfl, hw_in 35 (by decide +kernel) rfl⟩, by decide +kernel⟩
abbrev rX5_deliver : Room := { frames := 8, cells := 6, slots := 36, locals := 125 }
abbrev wX5_deliver : Cond := .code yX5_deliver cX5_deliver 4 (some .int)
theorem wv_X5_deliver : hw_WV RX5 yX5_deliver wX5_deliver 3 := ⟨⟨hw_in 663 (by decide +kernel) rfl, hw_in 661 (by decide +kernel) rfl, hw_in 662 (by decide +kernel) rfl, hw_in 35 (by decide +kernel) rfl⟩, by decide +kernel⟩
abbrev rX5_courier : Room := { frames := 8, cells := 7, slots := 42, locals := 125 }
abbrev wX5_courier : Cond := .code yX5_courier cX5_courier 6 (some .int)
theorem wv_X5_courier : hw_WV RX5 yX5_courier wX5_courier 4 := ⟨⟨hw_in 670 (by decide +kernel) rfl, hw_in 668 (by decide +kernel) rfl, hw_in 669 (by decide +kernel) rfl, hw_in 35 (by decide +kernel) rfl⟩, by decide +kernel⟩
abbrev rX5_rob : Room := { frames := 7, cells := 2, slots := 12, locals := 103 }
abbrev wX5_rob : Cond := .code yX5_rob cX5_rob 2 (some .int)
