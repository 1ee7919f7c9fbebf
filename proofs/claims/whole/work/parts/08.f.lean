section GFLD
variable {Z : gZ} {B : gB} {n : Nat × Nat} {V : gMem} {pc : Nat} {L : List (Nat × Value)} {st : List Value} {cc : ByteArray} {own : String} {b i idx : Nat}
theorem gg_X6_code (X : gX Z B cc own) (hp : gP 0 0 0) (hq : gFL own idx RX6 "code" "LFogBridge$Code;") (d : decode cc pc = .ok (.getfield idx, 3)) (kk : gG Z B n V (pc + 3) L (.ref (B.2.1 1 0 0) :: st)) : gG Z B n V pc L (.ref (B.2.1 0 0 0) :: st) := g_get X (ci := 5) (N := 5) (C := RX6) (T := TX6) rfl gU_X6 0 (by decide) rfl hp rfl rfl hq d kk
theorem gg_X6_fog (X : gX Z B cc own) (hp : gP 0 0 0) (hq : gFL own idx RX6 "fog" "[I") (d : decode cc pc = .ok (.getfield idx, 3)) (kk : gG Z B n V (pc + 3) L (.ref (B.2.1 4 0 0) :: st)) : gG Z B n V pc L (.ref (B.2.1 0 0 0) :: st) := g_get X (ci := 5) (N := 5) (C := RX6) (T := TX6) rfl gU_X6 1 (by decide) rfl hp rfl rfl hq d kk
theorem gg_X6_bridge (X : gX Z B cc own) (hp : gP 0 0 0) (hq : gFL own idx RX6 "bridge" "LFogBridge$Bridge;") (d : decode cc pc = .ok (.getfield idx, 3)) (kk : gG Z B n V (pc + 3) L (.ref (B.2.1 10 0 0) :: st)) : gG Z B n V pc L (.ref (B.2.1 0 0 0) :: st) := g_get X (ci := 5) (N := 5) (C := RX6) (T := TX6) rfl gU_X6 2 (by decide) rfl hp rfl rfl hq d kk
theorem gg_X6_ahead (X : gX Z B cc own) (hp : gP 0 0 0) (hq : gFL own idx RX6 "ahead" "LFogBridge$Bridge;") (d : decode cc pc = .ok (.getfield idx, 3)) (kk : gG Z B n V (pc + 3) L (.ref (B.2.1 10 1 0) :: st)) : gG Z B n V pc L (.ref (B.2.1 0 0 0) :: st) := g_get X (ci := 5) (N := 5) (C := RX6) (T := TX6) rfl gU_X6 3 (by decide) rfl hp rfl rfl hq d kk
theorem gg_X6_branch (X : gX Z B cc own) (hp : gP 0 0 0) (hq : gFL own idx RX6 "branch" "LFogBridge$Bridge;") (d : decode cc pc = .ok (.getfield idx, 3)) (kk : gG Z B n V (pc + 3) L (.ref (B.2.1 10 2 0) :: st)) : gG Z B n V pc L (.ref (B.2.1 0 0 0) :: st) := g_get X (ci := 5) (N := 5) (C := RX6) (T := TX6) rfl gU_X6 4 (by decide) rfl hp rfl rfl hq d kk
theorem gg_X2_signals (X : gX Z B cc own) (hp : gP 1 0 0) (hq : gFL own idx RX2 "signals" "[I") (d : decode cc pc = .ok (.getfield idx, 3)) (kk : gG Z B n V (pc + 3) L (.ref (B.2.1 2 0 0) :: st)) : gG Z B n V pc L (.ref (B.2.1 1 0 0) :: st) := g_get X (ci := 2) (N := 3) (C := RX2) (T := TX2) rfl gU_X2 0 (by decide) rfl hp rfl rfl hq d kk
theorem gg_X2_rowsOfLength (X : gX Z B cc own) (hp : gP 1 0 0) (hq : gFL own idx RX2 "rowsOfLength" "[I") (d : decode cc pc = .ok (.getfield idx, 3)) (kk : gG Z B n V (pc + 3) L (.ref (B.2.1 3 0 0) :: st)) : gG Z B n V pc L (.ref (B.2.1 1 0 0) :: st) := g_get X (ci := 2) (N := 3) (C := RX2) (T := TX2) rfl gU_X2 1 (by decide) rfl hp rfl rfl hq d kk
theorem gg_X2_size (X : gX Z B cc own) (hp : gP 1 0 0) (hq : gFL own idx RX2 "size" "I") (d : decode cc pc = .ok (.getfield idx, 3)) (kk : gG Z B n V (pc + 3) L (.int (V 1 0 0 2) :: st)) : gG Z B n V pc L (.ref (B.2.1 1 0 0) :: st) := g_get X (ci := 2) (N := 3) (C := RX2) (T := TX2) rfl gU_X2 2 (by decide) rfl hp rfl rfl hq d kk
theorem gp_X2_size (X : gX Z B cc own) {x : Int32} (hp : gP 1 0 0) (hq : gFL own idx RX2 "size" "I") (d : decode cc pc = .ok (.putfield idx, 3)) (kk : gG Z B n (gup V 1 0 0 2 x) (pc + 3) L st) : gG Z B n V pc L (.int x :: .ref (B.2.1 1 0 0) :: st) := g_put X (ci := 2) (N := 3) (C := RX2) (T := TX2) (ty := .int) rfl gU_X2 tyX2 tyX2_ok nmX2 2 (by decide) rfl rfl (by decide +kernel) rfl rfl hp rfl (by simp) rfl hq d kk
theorem gg_X0_tick (X : gX Z B cc own) (hp : gP 10 b 0) (hq : gFL own idx RX0 "tick" "I") (d : decode cc pc = .ok (.getfield idx, 3)) (kk : gG Z B n V (pc + 3) L (.int (V 10 b 0 0) :: st)) : gG Z B n V pc L (.ref (B.2.1 10 b 0) :: st) := g_get X (ci := 0) (N := 11) (C := RX0) (T := TX0) rfl gU_X0 0 (by decide) rfl hp rfl rfl hq d kk
theorem gp_X0_tick (X : gX Z B cc own) {x : Int32} (hp : gP 10 b 0) (hq : gFL own idx RX0 "tick" "I") (d : decode cc pc = .ok (.putfield idx, 3)) (kk : gG Z B n (gup V 10 b 0 0 x) (pc + 3) L st) : gG Z B n V pc L (.int x :: .ref (B.2.1 10 b 0) :: st) := g_put X (ci := 0) (N := 11) (C := RX0) (T := TX0) (ty := .int) rfl gU_X0 tyX0 tyX0_ok nmX0 0 (by decide) rfl rfl (by decide +kernel) rfl rfl hp rfl (by simp) rfl hq d kk
theorem gg_X0_direction (X : gX Z B cc own) (hp : gP 10 b 0) (hq : gFL own idx RX0 "direction" "I") (d : decode cc pc = .ok (.getfield idx, 3)) (kk : gG Z B n V (pc + 3) L (.int (V 10 b 0 1) :: st)) : gG Z B n V pc L (.ref (B.2.1 10 b 0) :: st) := g_get X (ci := 0) (N := 11) (C := RX0) (T := TX0) rfl gU_X0 1 (by decide) rfl hp rfl rfl hq d kk
theorem gp_X0_direction (X : gX Z B cc own) {x : Int32} (hp : gP 10 b 0) (hq : gFL own idx RX0 "direction" "I") (d : decode cc pc = .ok (.putfield idx, 3)) (kk : gG Z B n (gup V 10 b 0 1 x) (pc + 3) L st) : gG Z B n V pc L (.int x :: .ref (B.2.1 10 b 0) :: st) := g_put X (ci := 0) (N := 11) (C := RX0) (T := TX0) (ty := .int) rfl gU_X0 tyX0 tyX0_ok nmX0 1 (by decide) rfl rfl (by decide +kernel) rfl rfl hp rfl (by simp) rfl hq d kk
theorem gg_X0_places (X : gX Z B cc own) (hp : gP 10 b 0) (hq : gFL own idx RX0 "places" "I") (d : decode cc pc = .ok (.getfield idx, 3)) (kk : gG Z B n V (pc + 3) L (.int (V 10 b 0 2) :: st)) : gG Z B n V pc L (.ref (B.2.1 10 b 0) :: st) := g_get X (ci := 0) (N := 11) (C := RX0) (T := TX0) rfl gU_X0 2 (by decide) rfl hp rfl rfl hq d kk
theorem gp_X0_places (X : gX Z B cc own) {x : Int32} (hp : gP 10 b 0) (hq : gFL own idx RX0 "places" "I") (d : decode cc pc = .ok (.putfield idx, 3)) (kk : gG Z B n (gup V 10 b 0 2 x) (pc + 3) L st) : gG Z B n V pc L (.int x :: .ref (B.2.1 10 b 0) :: st) := g_put X (ci := 0) (N := 11) (C := RX0) (T := TX0) (ty := .int) rfl gU_X0 tyX0 tyX0_ok nmX0 2 (by decide) rfl rfl (by decide +kernel) rfl rfl hp rfl (by simp) rfl hq d kk
theorem gg_X0_bears (X : gX Z B cc own) (hp : gP 10 b 0) (hq : gFL own idx RX0 "bears" "I") (d : decode cc pc = .ok (.getfield idx, 3)) (kk : gG Z B n V (pc + 3) L (.int (V 10 b 0 3) :: st)) : gG Z B n V pc L (.ref (B.2.1 10 b 0) :: st) := g_get X (ci := 0) (N := 11) (C := RX0) (T := TX0) rfl gU_X0 3 (by decide) rfl hp rfl rfl hq d kk
theorem gp_X0_bears (X : gX Z B cc own) {x : Int32} (hp : gP 10 b 0) (hq : gFL own idx RX0 "bears" "I") (d : decode cc pc = .ok (.putfield idx, 3)) (kk : gG Z B n (gup V 10 b 0 3 x) (pc + 3) L st) : gG Z B n V pc L (.int x :: .ref (B.2.1 10 b 0) :: st) := g_put X (ci := 0) (N := 11) (C := RX0) (T := TX0) (ty := .int) rfl gU_X0 tyX0 tyX0_ok nmX0 3 (by decide) rfl rfl (by decide +kernel) rfl rfl hp rfl (by simp) rfl hq d kk
theorem gg_X0_axleToll (X : gX Z B cc own) (hp : gP 10 b 0) (hq : gFL own idx RX0 "axleToll" "I") (d : decode cc pc = .ok (.getfield idx, 3)) (kk : gG Z B n V (pc + 3) L (.int (V 10 b 0 4) :: st)) : gG Z B n V pc L (.ref (B.2.1 10 b 0) :: st) := g_get X (ci := 0) (N := 11) (C := RX0) (T := TX0) rfl gU_X0 4 (by decide) rfl hp rfl rfl hq d kk
theorem gp_X0_axleToll (X : gX Z B cc own) {x : Int32} (hp : gP 10 b 0) (hq : gFL own idx RX0 "axleToll" "I") (d : decode cc pc = .ok (.putfield idx, 3)) (kk : gG Z B n (gup V 10 b 0 4 x) (pc + 3) L st) : gG Z B n V pc L (.int x :: .ref (B.2.1 10 b 0) :: st) := g_put X (ci := 0) (N := 11) (C := RX0) (T := TX0) (ty := .int) rfl gU_X0 tyX0 tyX0_ok nmX0 4 (by decide) rfl rfl (by decide +kernel) rfl rfl hp rfl (by simp) rfl hq d kk
theorem gg_X0_tenToll (X : gX Z B cc own) (hp : gP 10 b 0) (hq : gFL own idx RX0 "tenToll" "I") (d : decode cc pc = .ok (.getfield idx, 3)) (kk : gG Z B n V (pc + 3) L (.int (V 10 b 0 5) :: st)) : gG Z B n V pc L (.ref (B.2.1 10 b 0) :: st) := g_get X (ci := 0) (N := 11) (C := RX0) (T := TX0) rfl gU_X0 5 (by decide) rfl hp rfl rfl hq d kk
theorem gp_X0_tenToll (X : gX Z B cc own) {x : Int32} (hp : gP 10 b 0) (hq : gFL own idx RX0 "tenToll" "I") (d : decode cc pc = .ok (.putfield idx, 3)) (kk : gG Z B n (gup V 10 b 0 5 x) (pc + 3) L st) : gG Z B n V pc L (.int x :: .ref (B.2.1 10 b 0) :: st) := g_put X (ci := 0) (N := 11) (C := RX0) (T := TX0) (ty := .int) rfl gU_X0 tyX0 tyX0_ok nmX0 5 (by decide) rfl rfl (by decide +kernel) rfl rfl hp rfl (by simp) rfl hq d kk
theorem gg_X0_cartCount (X : gX Z B cc own) (hp : gP 10 b 0) (hq : gFL own idx RX0 "cartCount" "I") (d : decode cc pc = .ok (.getfield idx, 3)) (kk : gG Z B n V (pc + 3) L (.int (V 10 b 0 6) :: st)) : gG Z B n V pc L (.ref (B.2.1 10 b 0) :: st) := g_get X (ci := 0) (N := 11) (C := RX0) (T := TX0) rfl gU_X0 6 (by decide) rfl hp rfl rfl hq d kk
theorem gp_X0_cartCount (X : gX Z B cc own) {x : Int32} (hp : gP 10 b 0) (hq : gFL own idx RX0 "cartCount" "I") (d : decode cc pc = .ok (.putfield idx, 3)) (kk : gG Z B n (gup V 10 b 0 6 x) (pc + 3) L st) : gG Z B n V pc L (.int x :: .ref (B.2.1 10 b 0) :: st) := g_put X (ci := 0) (N := 11) (C := RX0) (T := TX0) (ty := .int) rfl gU_X0 tyX0 tyX0_ok nmX0 6 (by decide) rfl rfl (by decide +kernel) rfl rfl hp rfl (by simp) rfl hq d kk
theorem gg_X0_carts (X : gX Z B cc own) (hp : gP 10 b 0) (hq : gFL own idx RX0 "carts" "[LFogBridge$Cart;") (d : decode cc pc = .ok (.getfield idx, 3)) (kk : gG Z B n V (pc + 3) L (.ref (B.2.1 11 b 0) :: st)) : gG Z B n V pc L (.ref (B.2.1 10 b 0) :: st) := g_get X (ci := 0) (N := 11) (C := RX0) (T := TX0) rfl gU_X0 7 (by decide) rfl hp rfl rfl hq d kk
theorem gg_X0_firstGate (X : gX Z B cc own) (hp : gP 10 b 0) (hq : gFL own idx RX0 "firstGate" "LFogBridge$Gate;") (d : decode cc pc = .ok (.getfield idx, 3)) (kk : gG Z B n V (pc + 3) L (.ref (B.2.1 12 b 0) :: st)) : gG Z B n V pc L (.ref (B.2.1 10 b 0) :: st) := g_get X (ci := 0) (N := 11) (C := RX0) (T := TX0) rfl gU_X0 8 (by decide) rfl hp rfl rfl hq d kk
theorem gg_X0_secondGate (X : gX Z B cc own) (hp : gP 10 b 0) (hq : gFL own idx RX0 "secondGate" "LFogBridge$Gate;") (d : decode cc pc = .ok (.getfield idx, 3)) (kk : gG Z B n V (pc + 3) L (.ref (B.2.1 12 b 1) :: st)) : gG Z B n V pc L (.ref (B.2.1 10 b 0) :: st) := g_get X (ci := 0) (N := 11) (C := RX0) (T := TX0) rfl gU_X0 9 (by decide) rfl hp rfl rfl hq d kk
theorem gg_X0_crossing (X : gX Z B cc own) (hp : gP 10 b 0) (hq : gFL own idx RX0 "crossing" "LFogBridge$Row;") (d : decode cc pc = .ok (.getfield idx, 3)) (kk : gG Z B n V (pc + 3) L (.ref (B.2.1 13 b 2) :: st)) : gG Z B n V pc L (.ref (B.2.1 10 b 0) :: st) := g_get X (ci := 0) (N := 11) (C := RX0) (T := TX0) rfl gU_X0 10 (by decide) rfl hp rfl rfl hq d kk
theorem gg_X3_waiting (X : gX Z B cc own) (hp : gP 12 b i) (hq : gFL own idx RX3 "waiting" "LFogBridge$Row;") (d : decode cc pc = .ok (.getfield idx, 3)) (kk : gG Z B n V (pc + 3) L (.ref (B.2.1 13 b i) :: st)) : gG Z B n V pc L (.ref (B.2.1 12 b i) :: st) := g_get X (ci := 3) (N := 5) (C := RX3) (T := TX3) rfl gU_X3 0 (by decide) rfl hp rfl rfl hq d kk
theorem gg_X3_coins (X : gX Z B cc own) (hp : gP 12 b i) (hq : gFL own idx RX3 "coins" "I") (d : decode cc pc = .ok (.getfield idx, 3)) (kk : gG Z B n V (pc + 3) L (.int (V 12 b i 1) :: st)) : gG Z B n V pc L (.ref (B.2.1 12 b i) :: st) := g_get X (ci := 3) (N := 5) (C := RX3) (T := TX3) rfl gU_X3 1 (by decide) rfl hp rfl rfl hq d kk
theorem gp_X3_coins (X : gX Z B cc own) {x : Int32} (hp : gP 12 b i) (hq : gFL own idx RX3 "coins" "I") (d : decode cc pc = .ok (.putfield idx, 3)) (kk : gG Z B n (gup V 12 b i 1 x) (pc + 3) L st) : gG Z B n V pc L (.int x :: .ref (B.2.1 12 b i) :: st) := g_put X (ci := 3) (N := 5) (C := RX3) (T := TX3) (ty := .int) rfl gU_X3 tyX3 tyX3_ok nmX3 1 (by decide) rfl rfl (by decide +kernel) rfl rfl hp rfl (by simp) rfl hq d kk
theorem gg_X3_payers (X : gX Z B cc own) (hp : gP 12 b i) (hq : gFL own idx RX3 "payers" "I") (d : decode cc pc = .ok (.getfield idx, 3)) (kk : gG Z B n V (pc + 3) L (.int (V 12 b i 2) :: st)) : gG Z B n V pc L (.ref (B.2.1 12 b i) :: st) := g_get X (ci := 3) (N := 5) (C := RX3) (T := TX3) rfl gU_X3 2 (by decide) rfl hp rfl rfl hq d kk
theorem gp_X3_payers (X : gX Z B cc own) {x : Int32} (hp : gP 12 b i) (hq : gFL own idx RX3 "payers" "I") (d : decode cc pc = .ok (.putfield idx, 3)) (kk : gG Z B n (gup V 12 b i 2 x) (pc + 3) L st) : gG Z B n V pc L (.int x :: .ref (B.2.1 12 b i) :: st) := g_put X (ci := 3) (N := 5) (C := RX3) (T := TX3) (ty := .int) rfl gU_X3 tyX3 tyX3_ok nmX3 2 (by decide) rfl rfl (by decide +kernel) rfl rfl hp rfl (by simp) rfl hq d kk
theorem gg_X3_axles (X : gX Z B cc own) (hp : gP 12 b i) (hq : gFL own idx RX3 "axles" "I") (d : decode cc pc = .ok (.getfield idx, 3)) (kk : gG Z B n V (pc + 3) L (.int (V 12 b i 3) :: st)) : gG Z B n V pc L (.ref (B.2.1 12 b i) :: st) := g_get X (ci := 3) (N := 5) (C := RX3) (T := TX3) rfl gU_X3 3 (by decide) rfl hp rfl rfl hq d kk
theorem gp_X3_axles (X : gX Z B cc own) {x : Int32} (hp : gP 12 b i) (hq : gFL own idx RX3 "axles" "I") (d : decode cc pc = .ok (.putfield idx, 3)) (kk : gG Z B n (gup V 12 b i 3 x) (pc + 3) L st) : gG Z B n V pc L (.int x :: .ref (B.2.1 12 b i) :: st) := g_put X (ci := 3) (N := 5) (C := RX3) (T := TX3) (ty := .int) rfl gU_X3 tyX3 tyX3_ok nmX3 3 (by decide) rfl rfl (by decide +kernel) rfl rfl hp rfl (by simp) rfl hq d kk
theorem gg_X3_keptByCheats (X : gX Z B cc own) (hp : gP 12 b i) (hq : gFL own idx RX3 "keptByCheats" "I") (d : decode cc pc = .ok (.getfield idx, 3)) (kk : gG Z B n V (pc + 3) L (.int (V 12 b i 4) :: st)) : gG Z B n V pc L (.ref (B.2.1 12 b i) :: st) := g_get X (ci := 3) (N := 5) (C := RX3) (T := TX3) rfl gU_X3 4 (by decide) rfl hp rfl rfl hq d kk
theorem gp_X3_keptByCheats (X : gX Z B cc own) {x : Int32} (hp : gP 12 b i) (hq : gFL own idx RX3 "keptByCheats" "I") (d : decode cc pc = .ok (.putfield idx, 3)) (kk : gG Z B n (gup V 12 b i 4 x) (pc + 3) L st) : gG Z B n V pc L (.int x :: .ref (B.2.1 12 b i) :: st) := g_put X (ci := 3) (N := 5) (C := RX3) (T := TX3) (ty := .int) rfl gU_X3 tyX3 tyX3_ok nmX3 4 (by decide) rfl rfl (by decide +kernel) rfl rfl hp rfl (by simp) rfl hq d kk
theorem gg_X5_carts (X : gX Z B cc own) (hp : gP 13 b i) (hq : gFL own idx RX5 "carts" "[I") (d : decode cc pc = .ok (.getfield idx, 3)) (kk : gG Z B n V (pc + 3) L (.ref (B.2.1 14 b i) :: st)) : gG Z B n V pc L (.ref (B.2.1 13 b i) :: st) := g_get X (ci := 4) (N := 2) (C := RX5) (T := TX5) rfl gU_X5 0 (by decide) rfl hp rfl rfl hq d kk
theorem gg_X5_size (X : gX Z B cc own) (hp : gP 13 b i) (hq : gFL own idx RX5 "size" "I") (d : decode cc pc = .ok (.getfield idx, 3)) (kk : gG Z B n V (pc + 3) L (.int (V 13 b i 1) :: st)) : gG Z B n V pc L (.ref (B.2.1 13 b i) :: st) := g_get X (ci := 4) (N := 2) (C := RX5) (T := TX5) rfl gU_X5 1 (by decide) rfl hp rfl rfl hq d kk
theorem gp_X5_size (X : gX Z B cc own) {x : Int32} (hp : gP 13 b i) (hq : gFL own idx RX5 "size" "I") (d : decode cc pc = .ok (.putfield idx, 3)) (kk : gG Z B n (gup V 13 b i 1 x) (pc + 3) L st) : gG Z B n V pc L (.int x :: .ref (B.2.1 13 b i) :: st) := g_put X (ci := 4) (N := 2) (C := RX5) (T := TX5) (ty := .int) rfl gU_X5 tyX5 tyX5_ok nmX5 1 (by decide) rfl rfl (by decide +kernel) rfl rfl hp rfl (by simp) rfl hq d kk
theorem gg_X1_number (X : gX Z B cc own) (hp : gP 15 b i) (hq : gFL own idx RX1 "number" "I") (d : decode cc pc = .ok (.getfield idx, 3)) (kk : gG Z B n V (pc + 3) L (.int (V 15 b i 0) :: st)) : gG Z B n V pc L (.ref (B.2.1 15 b i) :: st) := g_get X (ci := 1) (N := 11) (C := RX1) (T := TX1) rfl gU_X1 0 (by decide) rfl hp rfl rfl hq d kk
theorem gg_X1_end (X : gX Z B cc own) (hp : gP 15 b i) (hq : gFL own idx RX1 "end" "I") (d : decode cc pc = .ok (.getfield idx, 3)) (kk : gG Z B n V (pc + 3) L (.int (V 15 b i 1) :: st)) : gG Z B n V pc L (.ref (B.2.1 15 b i) :: st) := g_get X (ci := 1) (N := 11) (C := RX1) (T := TX1) rfl gU_X1 1 (by decide) rfl hp rfl rfl hq d kk
theorem gp_X1_end (X : gX Z B cc own) {x : Int32} (hp : gP 15 b i) (hq : gFL own idx RX1 "end" "I") (d : decode cc pc = .ok (.putfield idx, 3)) (kk : gG Z B n (gup V 15 b i 1 x) (pc + 3) L st) : gG Z B n V pc L (.int x :: .ref (B.2.1 15 b i) :: st) := g_put X (ci := 1) (N := 11) (C := RX1) (T := TX1) (ty := .int) rfl gU_X1 tyX1 tyX1_ok nmX1 1 (by decide) rfl rfl (by decide +kernel) rfl rfl hp rfl (by simp) rfl hq d kk
theorem gg_X1_axles (X : gX Z B cc own) (hp : gP 15 b i) (hq : gFL own idx RX1 "axles" "I") (d : decode cc pc = .ok (.getfield idx, 3)) (kk : gG Z B n V (pc + 3) L (.int (V 15 b i 2) :: st)) : gG Z B n V pc L (.ref (B.2.1 15 b i) :: st) := g_get X (ci := 1) (N := 11) (C := RX1) (T := TX1) rfl gU_X1 2 (by decide) rfl hp rfl rfl hq d kk
theorem gp_X1_axles (X : gX Z B cc own) {x : Int32} (hp : gP 15 b i) (hq : gFL own idx RX1 "axles" "I") (d : decode cc pc = .ok (.putfield idx, 3)) (kk : gG Z B n (gup V 15 b i 2 x) (pc + 3) L st) : gG Z B n V pc L (.int x :: .ref (B.2.1 15 b i) :: st) := g_put X (ci := 1) (N := 11) (C := RX1) (T := TX1) (ty := .int) rfl gU_X1 tyX1 tyX1_ok nmX1 2 (by decide) rfl rfl (by decide +kernel) rfl rfl hp rfl (by simp) rfl hq d kk
theorem gg_X1_weight (X : gX Z B cc own) (hp : gP 15 b i) (hq : gFL own idx RX1 "weight" "I") (d : decode cc pc = .ok (.getfield idx, 3)) (kk : gG Z B n V (pc + 3) L (.int (V 15 b i 3) :: st)) : gG Z B n V pc L (.ref (B.2.1 15 b i) :: st) := g_get X (ci := 1) (N := 11) (C := RX1) (T := TX1) rfl gU_X1 3 (by decide) rfl hp rfl rfl hq d kk
theorem gp_X1_weight (X : gX Z B cc own) {x : Int32} (hp : gP 15 b i) (hq : gFL own idx RX1 "weight" "I") (d : decode cc pc = .ok (.putfield idx, 3)) (kk : gG Z B n (gup V 15 b i 3 x) (pc + 3) L st) : gG Z B n V pc L (.int x :: .ref (B.2.1 15 b i) :: st) := g_put X (ci := 1) (N := 11) (C := RX1) (T := TX1) (ty := .int) rfl gU_X1 tyX1 tyX1_ok nmX1 3 (by decide) rfl rfl (by decide +kernel) rfl rfl hp rfl (by simp) rfl hq d kk
theorem gg_X1_pace (X : gX Z B cc own) (hp : gP 15 b i) (hq : gFL own idx RX1 "pace" "I") (d : decode cc pc = .ok (.getfield idx, 3)) (kk : gG Z B n V (pc + 3) L (.int (V 15 b i 4) :: st)) : gG Z B n V pc L (.ref (B.2.1 15 b i) :: st) := g_get X (ci := 1) (N := 11) (C := RX1) (T := TX1) rfl gU_X1 4 (by decide) rfl hp rfl rfl hq d kk
theorem gp_X1_pace (X : gX Z B cc own) {x : Int32} (hp : gP 15 b i) (hq : gFL own idx RX1 "pace" "I") (d : decode cc pc = .ok (.putfield idx, 3)) (kk : gG Z B n (gup V 15 b i 4 x) (pc + 3) L st) : gG Z B n V pc L (.int x :: .ref (B.2.1 15 b i) :: st) := g_put X (ci := 1) (N := 11) (C := RX1) (T := TX1) (ty := .int) rfl gU_X1 tyX1 tyX1_ok nmX1 4 (by decide) rfl rfl (by decide +kernel) rfl rfl hp rfl (by simp) rfl hq d kk
theorem gg_X1_coins (X : gX Z B cc own) (hp : gP 15 b i) (hq : gFL own idx RX1 "coins" "I") (d : decode cc pc = .ok (.getfield idx, 3)) (kk : gG Z B n V (pc + 3) L (.int (V 15 b i 5) :: st)) : gG Z B n V pc L (.ref (B.2.1 15 b i) :: st) := g_get X (ci := 1) (N := 11) (C := RX1) (T := TX1) rfl gU_X1 5 (by decide) rfl hp rfl rfl hq d kk
theorem gp_X1_coins (X : gX Z B cc own) {x : Int32} (hp : gP 15 b i) (hq : gFL own idx RX1 "coins" "I") (d : decode cc pc = .ok (.putfield idx, 3)) (kk : gG Z B n (gup V 15 b i 5 x) (pc + 3) L st) : gG Z B n V pc L (.int x :: .ref (B.2.1 15 b i) :: st) := g_put X (ci := 1) (N := 11) (C := RX1) (T := TX1) (ty := .int) rfl gU_X1 tyX1 tyX1_ok nmX1 5 (by decide) rfl rfl (by decide +kernel) rfl rfl hp rfl (by simp) rfl hq d kk
theorem gg_X1_isCheat (X : gX Z B cc own) (hp : gP 15 b i) (hq : gFL own idx RX1 "isCheat" "Z") (d : decode cc pc = .ok (.getfield idx, 3)) (kk : gG Z B n V (pc + 3) L (.int (V 15 b i 6) :: st)) : gG Z B n V pc L (.ref (B.2.1 15 b i) :: st) := g_get X (ci := 1) (N := 11) (C := RX1) (T := TX1) rfl gU_X1 6 (by decide) rfl hp rfl rfl hq d kk
theorem gp_X1_isCheat (X : gX Z B cc own) {x : Int32} (hx : narrow .boolean (.int x) = .int x) (hx2 : fits .boolean (.int x) = true) (hp : gP 15 b i) (hq : gFL own idx RX1 "isCheat" "Z") (d : decode cc pc = .ok (.putfield idx, 3)) (kk : gG Z B n (gup V 15 b i 6 x) (pc + 3) L st) : gG Z B n V pc L (.int x :: .ref (B.2.1 15 b i) :: st) := g_put X (ci := 1) (N := 11) (C := RX1) (T := TX1) (ty := .boolean) rfl gU_X1 tyX1 tyX1_ok nmX1 6 (by decide) rfl rfl (by decide +kernel) hx hx2 hp rfl (by simp) rfl hq d kk
theorem gg_X1_hasPaid (X : gX Z B cc own) (hp : gP 15 b i) (hq : gFL own idx RX1 "hasPaid" "Z") (d : decode cc pc = .ok (.getfield idx, 3)) (kk : gG Z B n V (pc + 3) L (.int (V 15 b i 7) :: st)) : gG Z B n V pc L (.ref (B.2.1 15 b i) :: st) := g_get X (ci := 1) (N := 11) (C := RX1) (T := TX1) rfl gU_X1 7 (by decide) rfl hp rfl rfl hq d kk
theorem gp_X1_hasPaid (X : gX Z B cc own) {x : Int32} (hx : narrow .boolean (.int x) = .int x) (hx2 : fits .boolean (.int x) = true) (hp : gP 15 b i) (hq : gFL own idx RX1 "hasPaid" "Z") (d : decode cc pc = .ok (.putfield idx, 3)) (kk : gG Z B n (gup V 15 b i 7 x) (pc + 3) L st) : gG Z B n V pc L (.int x :: .ref (B.2.1 15 b i) :: st) := g_put X (ci := 1) (N := 11) (C := RX1) (T := TX1) (ty := .boolean) rfl gU_X1 tyX1 tyX1_ok nmX1 7 (by decide) rfl rfl (by decide +kernel) hx hx2 hp rfl (by simp) rfl hq d kk
theorem gg_X1_state (X : gX Z B cc own) (hp : gP 15 b i) (hq : gFL own idx RX1 "state" "I") (d : decode cc pc = .ok (.getfield idx, 3)) (kk : gG Z B n V (pc + 3) L (.int (V 15 b i 8) :: st)) : gG Z B n V pc L (.ref (B.2.1 15 b i) :: st) := g_get X (ci := 1) (N := 11) (C := RX1) (T := TX1) rfl gU_X1 8 (by decide) rfl hp rfl rfl hq d kk
theorem gp_X1_state (X : gX Z B cc own) {x : Int32} (hp : gP 15 b i) (hq : gFL own idx RX1 "state" "I") (d : decode cc pc = .ok (.putfield idx, 3)) (kk : gG Z B n (gup V 15 b i 8 x) (pc + 3) L st) : gG Z B n V pc L (.int x :: .ref (B.2.1 15 b i) :: st) := g_put X (ci := 1) (N := 11) (C := RX1) (T := TX1) (ty := .int) rfl gU_X1 tyX1 tyX1_ok nmX1 8 (by decide) rfl rfl (by decide +kernel) rfl rfl hp rfl (by simp) rfl hq d kk
theorem gg_X1_way (X : gX Z B cc own) (hp : gP 15 b i) (hq : gFL own idx RX1 "way" "I") (d : decode cc pc = .ok (.getfield idx, 3)) (kk : gG Z B n V (pc + 3) L (.int (V 15 b i 9) :: st)) : gG Z B n V pc L (.ref (B.2.1 15 b i) :: st) := g_get X (ci := 1) (N := 11) (C := RX1) (T := TX1) rfl gU_X1 9 (by decide) rfl hp rfl rfl hq d kk
theorem gp_X1_way (X : gX Z B cc own) {x : Int32} (hp : gP 15 b i) (hq : gFL own idx RX1 "way" "I") (d : decode cc pc = .ok (.putfield idx, 3)) (kk : gG Z B n (gup V 15 b i 9 x) (pc + 3) L st) : gG Z B n V pc L (.int x :: .ref (B.2.1 15 b i) :: st) := g_put X (ci := 1) (N := 11) (C := RX1) (T := TX1) (ty := .int) rfl gU_X1 tyX1 tyX1_ok nmX1 9 (by decide) rfl rfl (by decide +kernel) rfl rfl hp rfl (by simp) rfl hq d kk
theorem gg_X1_overTick (X : gX Z B cc own) (hp : gP 15 b i) (hq : gFL own idx RX1 "overTick" "I") (d : decode cc pc = .ok (.getfield idx, 3)) (kk : gG Z B n V (pc + 3) L (.int (V 15 b i 10) :: st)) : gG Z B n V pc L (.ref (B.2.1 15 b i) :: st) := g_get X (ci := 1) (N := 11) (C := RX1) (T := TX1) rfl gU_X1 10 (by decide) rfl hp rfl rfl hq d kk
theorem gp_X1_overTick (X : gX Z B cc own) {x : Int32} (hp : gP 15 b i) (hq : gFL own idx RX1 "overTick" "I") (d : decode cc pc = .ok (.putfield idx, 3)) (kk : gG Z B n (gup V 15 b i 10 x) (pc + 3) L st) : gG Z B n V pc L (.int x :: .ref (B.2.1 15 b i) :: st) := g_put X (ci := 1) (N := 11) (C := RX1) (T := TX1) (ty := .int) rfl gU_X1 tyX1 tyX1_ok nmX1 10 (by decide) rfl rfl (by decide +kernel) rfl rfl hp rfl (by simp) rfl hq d kk
theorem gg_X8_thrown (X : gX Z B cc own) (hp : gP 20 0 0) (hq : gFL own idx RX8 "thrown" "I") (d : decode cc pc = .ok (.getfield idx, 3)) (kk : gG Z B n V (pc + 3) L (.int (V 20 0 0 0) :: st)) : gG Z B n V pc L (.ref (B.2.1 20 0 0) :: st) := g_get X (ci := 7) (N := 10) (C := RX8) (T := TX8) rfl gU_X8 0 (by decide) rfl hp rfl rfl hq d kk
theorem gp_X8_thrown (X : gX Z B cc own) {x : Int32} (hp : gP 20 0 0) (hq : gFL own idx RX8 "thrown" "I") (d : decode cc pc = .ok (.putfield idx, 3)) (kk : gG Z B n (gup V 20 0 0 0 x) (pc + 3) L st) : gG Z B n V pc L (.int x :: .ref (B.2.1 20 0 0) :: st) := g_put X (ci := 7) (N := 10) (C := RX8) (T := TX8) (ty := .int) rfl gU_X8 tyX8 tyX8_ok nmX8 0 (by decide) rfl rfl (by decide +kernel) rfl rfl hp rfl (by simp) rfl hq d kk
theorem gg_X8_signals (X : gX Z B cc own) (hp : gP 20 0 0) (hq : gFL own idx RX8 "signals" "I") (d : decode cc pc = .ok (.getfield idx, 3)) (kk : gG Z B n V (pc + 3) L (.int (V 20 0 0 1) :: st)) : gG Z B n V pc L (.ref (B.2.1 20 0 0) :: st) := g_get X (ci := 7) (N := 10) (C := RX8) (T := TX8) rfl gU_X8 1 (by decide) rfl hp rfl rfl hq d kk
theorem gp_X8_signals (X : gX Z B cc own) {x : Int32} (hp : gP 20 0 0) (hq : gFL own idx RX8 "signals" "I") (d : decode cc pc = .ok (.putfield idx, 3)) (kk : gG Z B n (gup V 20 0 0 1 x) (pc + 3) L st) : gG Z B n V pc L (.int x :: .ref (B.2.1 20 0 0) :: st) := g_put X (ci := 7) (N := 10) (C := RX8) (T := TX8) (ty := .int) rfl gU_X8 tyX8 tyX8_ok nmX8 1 (by decide) rfl rfl (by decide +kernel) rfl rfl hp rfl (by simp) rfl hq d kk
theorem gg_X8_signal (X : gX Z B cc own) (hp : gP 20 0 0) (hq : gFL own idx RX8 "signal" "[I") (d : decode cc pc = .ok (.getfield idx, 3)) (kk : gG Z B n V (pc + 3) L (.ref (B.2.1 21 0 0) :: st)) : gG Z B n V pc L (.ref (B.2.1 20 0 0) :: st) := g_get X (ci := 7) (N := 10) (C := RX8) (T := TX8) rfl gU_X8 2 (by decide) rfl hp rfl rfl hq d kk
theorem gg_X8_fog (X : gX Z B cc own) (hp : gP 20 0 0) (hq : gFL own idx RX8 "fog" "[I") (d : decode cc pc = .ok (.getfield idx, 3)) (kk : gG Z B n V (pc + 3) L (.ref (B.2.1 22 0 0) :: st)) : gG Z B n V pc L (.ref (B.2.1 20 0 0) :: st) := g_get X (ci := 7) (N := 10) (C := RX8) (T := TX8) rfl gU_X8 3 (by decide) rfl hp rfl rfl hq d kk
theorem gg_X8_places (X : gX Z B cc own) (hp : gP 20 0 0) (hq : gFL own idx RX8 "places" "I") (d : decode cc pc = .ok (.getfield idx, 3)) (kk : gG Z B n V (pc + 3) L (.int (V 20 0 0 4) :: st)) : gG Z B n V pc L (.ref (B.2.1 20 0 0) :: st) := g_get X (ci := 7) (N := 10) (C := RX8) (T := TX8) rfl gU_X8 4 (by decide) rfl hp rfl rfl hq d kk
theorem gp_X8_places (X : gX Z B cc own) {x : Int32} (hp : gP 20 0 0) (hq : gFL own idx RX8 "places" "I") (d : decode cc pc = .ok (.putfield idx, 3)) (kk : gG Z B n (gup V 20 0 0 4 x) (pc + 3) L st) : gG Z B n V pc L (.int x :: .ref (B.2.1 20 0 0) :: st) := g_put X (ci := 7) (N := 10) (C := RX8) (T := TX8) (ty := .int) rfl gU_X8 tyX8 tyX8_ok nmX8 4 (by decide) rfl rfl (by decide +kernel) rfl rfl hp rfl (by simp) rfl hq d kk
theorem gg_X8_bears (X : gX Z B cc own) (hp : gP 20 0 0) (hq : gFL own idx RX8 "bears" "I") (d : decode cc pc = .ok (.getfield idx, 3)) (kk : gG Z B n V (pc + 3) L (.int (V 20 0 0 5) :: st)) : gG Z B n V pc L (.ref (B.2.1 20 0 0) :: st) := g_get X (ci := 7) (N := 10) (C := RX8) (T := TX8) rfl gU_X8 5 (by decide) rfl hp rfl rfl hq d kk
theorem gp_X8_bears (X : gX Z B cc own) {x : Int32} (hp : gP 20 0 0) (hq : gFL own idx RX8 "bears" "I") (d : decode cc pc = .ok (.putfield idx, 3)) (kk : gG Z B n (gup V 20 0 0 5 x) (pc + 3) L st) : gG Z B n V pc L (.int x :: .ref (B.2.1 20 0 0) :: st) := g_put X (ci := 7) (N := 10) (C := RX8) (T := TX8) (ty := .int) rfl gU_X8 tyX8 tyX8_ok nmX8 5 (by decide) rfl rfl (by decide +kernel) rfl rfl hp rfl (by simp) rfl hq d kk
theorem gg_X8_axleToll (X : gX Z B cc own) (hp : gP 20 0 0) (hq : gFL own idx RX8 "axleToll" "I") (d : decode cc pc = .ok (.getfield idx, 3)) (kk : gG Z B n V (pc + 3) L (.int (V 20 0 0 6) :: st)) : gG Z B n V pc L (.ref (B.2.1 20 0 0) :: st) := g_get X (ci := 7) (N := 10) (C := RX8) (T := TX8) rfl gU_X8 6 (by decide) rfl hp rfl rfl hq d kk
theorem gp_X8_axleToll (X : gX Z B cc own) {x : Int32} (hp : gP 20 0 0) (hq : gFL own idx RX8 "axleToll" "I") (d : decode cc pc = .ok (.putfield idx, 3)) (kk : gG Z B n (gup V 20 0 0 6 x) (pc + 3) L st) : gG Z B n V pc L (.int x :: .ref (B.2.1 20 0 0) :: st) := g_put X (ci := 7) (N := 10) (C := RX8) (T := TX8) (ty := .int) rfl gU_X8 tyX8 tyX8_ok nmX8 6 (by decide) rfl rfl (by decide +kernel) rfl rfl hp rfl (by simp) rfl hq d kk
theorem gg_X8_tenToll (X : gX Z B cc own) (hp : gP 20 0 0) (hq : gFL own idx RX8 "tenToll" "I") (d : decode cc pc = .ok (.getfield idx, 3)) (kk : gG Z B n V (pc + 3) L (.int (V 20 0 0 7) :: st)) : gG Z B n V pc L (.ref (B.2.1 20 0 0) :: st) := g_get X (ci := 7) (N := 10) (C := RX8) (T := TX8) rfl gU_X8 7 (by decide) rfl hp rfl rfl hq d kk
theorem gp_X8_tenToll (X : gX Z B cc own) {x : Int32} (hp : gP 20 0 0) (hq : gFL own idx RX8 "tenToll" "I") (d : decode cc pc = .ok (.putfield idx, 3)) (kk : gG Z B n (gup V 20 0 0 7 x) (pc + 3) L st) : gG Z B n V pc L (.int x :: .ref (B.2.1 20 0 0) :: st) := g_put X (ci := 7) (N := 10) (C := RX8) (T := TX8) (ty := .int) rfl gU_X8 tyX8 tyX8_ok nmX8 7 (by decide) rfl rfl (by decide +kernel) rfl rfl hp rfl (by simp) rfl hq d kk
theorem gg_X8_s (X : gX Z B cc own) (hp : gP 20 0 0) (hq : gFL own idx RX8 "s" "LFogBridgeModel$State;") (d : decode cc pc = .ok (.getfield idx, 3)) (kk : gG Z B n V (pc + 3) L (.ref (B.2.1 23 0 0) :: st)) : gG Z B n V pc L (.ref (B.2.1 20 0 0) :: st) := g_get X (ci := 7) (N := 10) (C := RX8) (T := TX8) rfl gU_X8 8 (by decide) rfl hp rfl rfl hq d kk
theorem gg_X8_ahead (X : gX Z B cc own) (hp : gP 20 0 0) (hq : gFL own idx RX8 "ahead" "LFogBridgeModel$State;") (d : decode cc pc = .ok (.getfield idx, 3)) (kk : gG Z B n V (pc + 3) L (.ref (B.2.1 23 1 0) :: st)) : gG Z B n V pc L (.ref (B.2.1 20 0 0) :: st) := g_get X (ci := 7) (N := 10) (C := RX8) (T := TX8) rfl gU_X8 9 (by decide) rfl hp rfl rfl hq d kk
theorem gg_X7_tick (X : gX Z B cc own) (hp : gP 23 b 0) (hq : gFL own idx RX7 "tick" "I") (d : decode cc pc = .ok (.getfield idx, 3)) (kk : gG Z B n V (pc + 3) L (.int (V 23 b 0 0) :: st)) : gG Z B n V pc L (.ref (B.2.1 23 b 0) :: st) := g_get X (ci := 6) (N := 8) (C := RX7) (T := TX7) rfl gU_X7 0 (by decide) rfl hp rfl rfl hq d kk
theorem gp_X7_tick (X : gX Z B cc own) {x : Int32} (hp : gP 23 b 0) (hq : gFL own idx RX7 "tick" "I") (d : decode cc pc = .ok (.putfield idx, 3)) (kk : gG Z B n (gup V 23 b 0 0 x) (pc + 3) L st) : gG Z B n V pc L (.int x :: .ref (B.2.1 23 b 0) :: st) := g_put X (ci := 6) (N := 8) (C := RX7) (T := TX7) (ty := .int) rfl gU_X7 tyX7 tyX7_ok nmX7 0 (by decide) rfl rfl (by decide +kernel) rfl rfl hp rfl (by simp) rfl hq d kk
theorem gg_X7_open (X : gX Z B cc own) (hp : gP 23 b 0) (hq : gFL own idx RX7 "open" "I") (d : decode cc pc = .ok (.getfield idx, 3)) (kk : gG Z B n V (pc + 3) L (.int (V 23 b 0 1) :: st)) : gG Z B n V pc L (.ref (B.2.1 23 b 0) :: st) := g_get X (ci := 6) (N := 8) (C := RX7) (T := TX7) rfl gU_X7 1 (by decide) rfl hp rfl rfl hq d kk
theorem gp_X7_open (X : gX Z B cc own) {x : Int32} (hp : gP 23 b 0) (hq : gFL own idx RX7 "open" "I") (d : decode cc pc = .ok (.putfield idx, 3)) (kk : gG Z B n (gup V 23 b 0 1 x) (pc + 3) L st) : gG Z B n V pc L (.int x :: .ref (B.2.1 23 b 0) :: st) := g_put X (ci := 6) (N := 8) (C := RX7) (T := TX7) (ty := .int) rfl gU_X7 tyX7 tyX7_ok nmX7 1 (by decide) rfl rfl (by decide +kernel) rfl rfl hp rfl (by simp) rfl hq d kk
theorem gg_X7_carts (X : gX Z B cc own) (hp : gP 23 b 0) (hq : gFL own idx RX7 "carts" "I") (d : decode cc pc = .ok (.getfield idx, 3)) (kk : gG Z B n V (pc + 3) L (.int (V 23 b 0 2) :: st)) : gG Z B n V pc L (.ref (B.2.1 23 b 0) :: st) := g_get X (ci := 6) (N := 8) (C := RX7) (T := TX7) rfl gU_X7 2 (by decide) rfl hp rfl rfl hq d kk
theorem gp_X7_carts (X : gX Z B cc own) {x : Int32} (hp : gP 23 b 0) (hq : gFL own idx RX7 "carts" "I") (d : decode cc pc = .ok (.putfield idx, 3)) (kk : gG Z B n (gup V 23 b 0 2 x) (pc + 3) L st) : gG Z B n V pc L (.int x :: .ref (B.2.1 23 b 0) :: st) := g_put X (ci := 6) (N := 8) (C := RX7) (T := TX7) (ty := .int) rfl gU_X7 tyX7 tyX7_ok nmX7 2 (by decide) rfl rfl (by decide +kernel) rfl rfl hp rfl (by simp) rfl hq d kk
theorem gg_X7_of (X : gX Z B cc own) (hp : gP 23 b 0) (hq : gFL own idx RX7 "of" "[I") (d : decode cc pc = .ok (.getfield idx, 3)) (kk : gG Z B n V (pc + 3) L (.ref (B.2.1 24 b 0) :: st)) : gG Z B n V pc L (.ref (B.2.1 23 b 0) :: st) := g_get X (ci := 6) (N := 8) (C := RX7) (T := TX7) rfl gU_X7 3 (by decide) rfl hp rfl rfl hq d kk
theorem gg_X7_at (X : gX Z B cc own) (hp : gP 23 b 0) (hq : gFL own idx RX7 "at" "[I") (d : decode cc pc = .ok (.getfield idx, 3)) (kk : gG Z B n V (pc + 3) L (.ref (B.2.1 25 b 0) :: st)) : gG Z B n V pc L (.ref (B.2.1 23 b 0) :: st) := g_get X (ci := 6) (N := 8) (C := RX7) (T := TX7) rfl gU_X7 4 (by decide) rfl hp rfl rfl hq d kk
theorem gg_X7_row (X : gX Z B cc own) (hp : gP 23 b 0) (hq : gFL own idx RX7 "row" "[I") (d : decode cc pc = .ok (.getfield idx, 3)) (kk : gG Z B n V (pc + 3) L (.ref (B.2.1 26 b 0) :: st)) : gG Z B n V pc L (.ref (B.2.1 23 b 0) :: st) := g_get X (ci := 6) (N := 8) (C := RX7) (T := TX7) rfl gU_X7 5 (by decide) rfl hp rfl rfl hq d kk
theorem gg_X7_box (X : gX Z B cc own) (hp : gP 23 b 0) (hq : gFL own idx RX7 "box" "[I") (d : decode cc pc = .ok (.getfield idx, 3)) (kk : gG Z B n V (pc + 3) L (.ref (B.2.1 27 b 0) :: st)) : gG Z B n V pc L (.ref (B.2.1 23 b 0) :: st) := g_get X (ci := 6) (N := 8) (C := RX7) (T := TX7) rfl gU_X7 6 (by decide) rfl hp rfl rfl hq d kk
theorem gg_X7_this_0 (X : gX Z B cc own) (hp : gP 23 b 0) (hq : gFL own idx RX7 "this$0" "LFogBridgeModel;") (d : decode cc pc = .ok (.getfield idx, 3)) (kk : gG Z B n V (pc + 3) L (.ref (B.2.1 20 0 0) :: st)) : gG Z B n V pc L (.ref (B.2.1 23 b 0) :: st) := g_get X (ci := 6) (N := 8) (C := RX7) (T := TX7) rfl gU_X7 7 (by decide) rfl hp rfl rfl hq d kk
end GFLD
theorem fX2_9 : gFL RX2 9 RX2 "signals" "[I" := Or.inl qF_X2_9
theorem fX2_15 : gFL RX2 15 RX2 "rowsOfLength" "[I" := Or.inl qF_X2_15
theorem fX2_18 : gFL RX2 18 RX2 "size" "I" := Or.inl qF_X2_18
theorem fX6_81 : gFL RX6 81 RX2 "size" "I" := Or.inr ⟨_, qFN_X6_81⟩
theorem fX5_9 : gFL RX5 9 RX5 "carts" "[I" := Or.inl qF_X5_9
theorem fX5_15 : gFL RX5 15 RX5 "size" "I" := Or.inl qF_X5_15
theorem fX3_34 : gFL RX3 34 RX5 "size" "I" := Or.inr ⟨_, qFN_X3_34⟩
theorem fX6_114 : gFL RX6 114 RX5 "size" "I" := Or.inr ⟨_, qFN_X6_114⟩
theorem fX0_80 : gFL RX0 80 RX5 "size" "I" := Or.inr ⟨_, qFN_X0_80⟩
theorem fX3_12 : gFL RX3 12 RX3 "waiting" "LFogBridge$Row;" := Or.inl qF_X3_12
theorem fX6_172 : gFL RX6 172 RX3 "waiting" "LFogBridge$Row;" := Or.inr ⟨_, qFN_X6_172⟩
theorem fX0_157 : gFL RX0 157 RX3 "waiting" "LFogBridge$Row;" := Or.inr ⟨_, qFN_X0_157⟩
theorem fX3_18 : gFL RX3 18 RX3 "coins" "I" := Or.inl qF_X3_18
theorem fX0_77 : gFL RX0 77 RX3 "coins" "I" := Or.inr ⟨_, qFN_X0_77⟩
theorem fX6_209 : gFL RX6 209 RX3 "coins" "I" := Or.inr ⟨_, qFN_X6_209⟩
theorem fX3_22 : gFL RX3 22 RX3 "payers" "I" := Or.inl qF_X3_22
theorem fX3_25 : gFL RX3 25 RX3 "axles" "I" := Or.inl qF_X3_25
theorem fX3_31 : gFL RX3 31 RX3 "keptByCheats" "I" := Or.inl qF_X3_31
theorem fX6_206 : gFL RX6 206 RX3 "keptByCheats" "I" := Or.inr ⟨_, qFN_X6_206⟩
theorem fX1_18 : gFL RX1 18 RX1 "number" "I" := Or.inl qF_X1_18
theorem fX6_177 : gFL RX6 177 RX1 "number" "I" := Or.inr ⟨_, qFN_X6_177⟩
theorem fX0_160 : gFL RX0 160 RX1 "number" "I" := Or.inr ⟨_, qFN_X0_160⟩
theorem fX1_21 : gFL RX1 21 RX1 "end" "I" := Or.inl qF_X1_21
theorem fX6_147 : gFL RX6 147 RX1 "end" "I" := Or.inr ⟨_, qFN_X6_147⟩
theorem fX0_100 : gFL RX0 100 RX1 "end" "I" := Or.inr ⟨_, qFN_X0_100⟩
theorem fX1_24 : gFL RX1 24 RX1 "axles" "I" := Or.inl qF_X1_24
theorem fX3_28 : gFL RX3 28 RX1 "axles" "I" := Or.inr ⟨_, qFN_X3_28⟩
theorem fX6_152 : gFL RX6 152 RX1 "axles" "I" := Or.inr ⟨_, qFN_X6_152⟩
theorem fX0_93 : gFL RX0 93 RX1 "axles" "I" := Or.inr ⟨_, qFN_X0_93⟩
theorem fX1_27 : gFL RX1 27 RX1 "weight" "I" := Or.inl qF_X1_27
theorem fX0_87 : gFL RX0 87 RX1 "weight" "I" := Or.inr ⟨_, qFN_X0_87⟩
theorem fX6_155 : gFL RX6 155 RX1 "weight" "I" := Or.inr ⟨_, qFN_X6_155⟩
theorem fX1_30 : gFL RX1 30 RX1 "pace" "I" := Or.inl qF_X1_30
theorem fX6_158 : gFL RX6 158 RX1 "pace" "I" := Or.inr ⟨_, qFN_X6_158⟩
theorem fX0_96 : gFL RX0 96 RX1 "pace" "I" := Or.inr ⟨_, qFN_X0_96⟩
theorem fX1_33 : gFL RX1 33 RX1 "coins" "I" := Or.inl qF_X1_33
theorem fX6_161 : gFL RX6 161 RX1 "coins" "I" := Or.inr ⟨_, qFN_X6_161⟩
theorem fX0_99 : gFL RX0 99 RX1 "coins" "I" := Or.inr ⟨_, qFN_X0_99⟩
theorem fX1_36 : gFL RX1 36 RX1 "isCheat" "Z" := Or.inl qF_X1_36
theorem fX6_164 : gFL RX6 164 RX1 "isCheat" "Z" := Or.inr ⟨_, qFN_X6_164⟩
theorem fX0_190 : gFL RX0 190 RX1 "isCheat" "Z" := Or.inr ⟨_, qFN_X0_190⟩
theorem fX1_40 : gFL RX1 40 RX1 "hasPaid" "Z" := Or.inl qF_X1_40
theorem fX0_173 : gFL RX0 173 RX1 "hasPaid" "Z" := Or.inr ⟨_, qFN_X0_173⟩
theorem fX1_9 : gFL RX1 9 RX1 "state" "I" := Or.inl qF_X1_9
theorem fX0_74 : gFL RX0 74 RX1 "state" "I" := Or.inr ⟨_, qFN_X0_74⟩
theorem fX1_43 : gFL RX1 43 RX1 "way" "I" := Or.inl qF_X1_43
theorem fX0_133 : gFL RX0 133 RX1 "way" "I" := Or.inr ⟨_, qFN_X0_133⟩
theorem fX1_15 : gFL RX1 15 RX1 "overTick" "I" := Or.inl qF_X1_15
theorem fX0_90 : gFL RX0 90 RX1 "overTick" "I" := Or.inr ⟨_, qFN_X0_90⟩
theorem fX6_90 : gFL RX6 90 RX0 "tick" "I" := Or.inr ⟨_, qFN_X6_90⟩
theorem fX0_71 : gFL RX0 71 RX0 "tick" "I" := Or.inl qF_X0_71
theorem fX0_61 : gFL RX0 61 RX0 "direction" "I" := Or.inl qF_X0_61
theorem fX6_136 : gFL RX6 136 RX0 "direction" "I" := Or.inr ⟨_, qFN_X6_136⟩
theorem fX0_9 : gFL RX0 9 RX0 "places" "I" := Or.inl qF_X0_9
theorem fX6_122 : gFL RX6 122 RX0 "places" "I" := Or.inr ⟨_, qFN_X6_122⟩
theorem fX0_15 : gFL RX0 15 RX0 "bears" "I" := Or.inl qF_X0_15
theorem fX6_119 : gFL RX6 119 RX0 "bears" "I" := Or.inr ⟨_, qFN_X6_119⟩
theorem fX0_18 : gFL RX0 18 RX0 "axleToll" "I" := Or.inl qF_X0_18
theorem fX6_127 : gFL RX6 127 RX0 "axleToll" "I" := Or.inr ⟨_, qFN_X6_127⟩
theorem fX0_21 : gFL RX0 21 RX0 "tenToll" "I" := Or.inl qF_X0_21
theorem fX6_130 : gFL RX6 130 RX0 "tenToll" "I" := Or.inr ⟨_, qFN_X6_130⟩
theorem fX0_50 : gFL RX0 50 RX0 "cartCount" "I" := Or.inl qF_X0_50
theorem fX6_258 : gFL RX6 258 RX0 "cartCount" "I" := Or.inr ⟨_, qFN_X6_258⟩
theorem fX0_26 : gFL RX0 26 RX0 "carts" "[LFogBridge$Cart;" := Or.inl qF_X0_26
theorem fX0_33 : gFL RX0 33 RX0 "firstGate" "LFogBridge$Gate;" := Or.inl qF_X0_33
theorem fX0_37 : gFL RX0 37 RX0 "secondGate" "LFogBridge$Gate;" := Or.inl qF_X0_37
theorem fX0_43 : gFL RX0 43 RX0 "crossing" "LFogBridge$Row;" := Or.inl qF_X0_43
theorem fX6_110 : gFL RX6 110 RX0 "crossing" "LFogBridge$Row;" := Or.inr ⟨_, qFN_X6_110⟩
theorem fX6_10 : gFL RX6 10 RX6 "code" "LFogBridge$Code;" := Or.inl qF_X6_10
theorem fX6_16 : gFL RX6 16 RX6 "fog" "[I" := Or.inl qF_X6_16
theorem fX6_23 : gFL RX6 23 RX6 "bridge" "LFogBridge$Bridge;" := Or.inl qF_X6_23
theorem fX6_27 : gFL RX6 27 RX6 "ahead" "LFogBridge$Bridge;" := Or.inl qF_X6_27
theorem fX6_30 : gFL RX6 30 RX6 "branch" "LFogBridge$Bridge;" := Or.inl qF_X6_30
theorem fX7_34 : gFL RX7 34 RX7 "tick" "I" := Or.inl qF_X7_34
theorem fX8_79 : gFL RX8 79 RX7 "tick" "I" := Or.inr ⟨_, qFN_X8_79⟩
theorem fX7_38 : gFL RX7 38 RX7 "open" "I" := Or.inl qF_X7_38
theorem fX8_88 : gFL RX8 88 RX7 "open" "I" := Or.inr ⟨_, qFN_X8_88⟩
theorem fX7_41 : gFL RX7 41 RX7 "carts" "I" := Or.inl qF_X7_41
theorem fX8_91 : gFL RX8 91 RX7 "carts" "I" := Or.inr ⟨_, qFN_X8_91⟩
theorem fX7_15 : gFL RX7 15 RX7 "of" "[I" := Or.inl qF_X7_15
theorem fX8_94 : gFL RX8 94 RX7 "of" "[I" := Or.inr ⟨_, qFN_X8_94⟩
theorem fX7_19 : gFL RX7 19 RX7 "at" "[I" := Or.inl qF_X7_19
theorem fX7_22 : gFL RX7 22 RX7 "row" "[I" := Or.inl qF_X7_22
theorem fX8_119 : gFL RX8 119 RX7 "row" "[I" := Or.inr ⟨_, qFN_X8_119⟩
theorem fX7_25 : gFL RX7 25 RX7 "box" "[I" := Or.inl qF_X7_25
theorem fX8_103 : gFL RX8 103 RX7 "box" "[I" := Or.inr ⟨_, qFN_X8_103⟩
theorem fX7_3 : gFL RX7 3 RX7 "this$0" "LFogBridgeModel;" := Or.inl qF_X7_3
theorem fX8_41 : gFL RX8 41 RX8 "thrown" "I" := Or.inl qF_X8_41
theorem fX8_62 : gFL RX8 62 RX8 "signals" "I" := Or.inl qF_X8_62
theorem fX8_9 : gFL RX8 9 RX8 "signal" "[I" := Or.inl qF_X8_9
theorem fX8_13 : gFL RX8 13 RX8 "fog" "[I" := Or.inl qF_X8_13
theorem fX8_16 : gFL RX8 16 RX8 "places" "I" := Or.inl qF_X8_16
theorem fX7_59 : gFL RX7 59 RX8 "places" "I" := Or.inr ⟨_, qFN_X7_59⟩
theorem fX8_20 : gFL RX8 20 RX8 "bears" "I" := Or.inl qF_X8_20
theorem fX7_74 : gFL RX7 74 RX8 "bears" "I" := Or.inr ⟨_, qFN_X7_74⟩
theorem fX8_23 : gFL RX8 23 RX8 "axleToll" "I" := Or.inl qF_X8_23
theorem fX7_81 : gFL RX7 81 RX8 "axleToll" "I" := Or.inr ⟨_, qFN_X7_81⟩
theorem fX8_26 : gFL RX8 26 RX8 "tenToll" "I" := Or.inl qF_X8_26
theorem fX7_84 : gFL RX7 84 RX8 "tenToll" "I" := Or.inr ⟨_, qFN_X7_84⟩
theorem fX8_34 : gFL RX8 34 RX8 "s" "LFogBridgeModel$State;" := Or.inl qF_X8_34
theorem fX8_38 : gFL RX8 38 RX8 "ahead" "LFogBridgeModel$State;" := Or.inl qF_X8_38
theorem lL_69 : gML RL 69 yX6_init := Or.inl qL_L_69
theorem lX6_1 : gML RX6 1 objectInit := Or.inl qL_X6_1
theorem lX6_9 : gML RX6 9 yX2_init := Or.inr ⟨_, qMN_X6_9⟩
theorem lX2_3 : gML RX2 3 objectInit := Or.inl qL_X2_3
theorem lX6_22 : gML RX6 22 yX0_init := Or.inl qL_X6_22
theorem lX0_3 : gML RX0 3 objectInit := Or.inl qL_X0_3
theorem lX0_32 : gML RX0 32 yX3_init := Or.inr ⟨_, qMN_X0_32⟩
theorem lX3_3 : gML RX3 3 objectInit := Or.inl qL_X3_3
theorem lX3_11 : gML RX3 11 yX5_init := Or.inr ⟨_, qMN_X3_11⟩
theorem lX5_3 : gML RX5 3 objectInit := Or.inl qL_X5_3
theorem lX0_42 : gML RX0 42 yX5_init := Or.inr ⟨_, qMN_X0_42⟩
theorem lX0_47 : gML RX0 47 yX1_init := Or.inl qL_X0_47
theorem lX1_3 : gML RX1 3 objectInit := Or.inl qL_X1_3
theorem lL_105 : gML RL 105 yX6_change := Or.inl qL_L_105
theorem lX6_133 : gML RX6 133 yX0_turn := Or.inl qL_X6_133
theorem lL_134 : gML RL 134 yX6_keep := Or.inl qL_L_134
theorem lX6_222 : gML RX6 222 yX0_copyFrom := Or.inl qL_X6_222
theorem lX0_57 : gML RX0 57 yX0_cartAt := Or.inl qL_X0_57
theorem lX0_53 : gML RX0 53 yX6_isIndex := Or.inr ⟨_, qMN_X0_53⟩
theorem lX0_123 : gML RX0 123 yX1_copyFrom := Or.inl qL_X0_123
theorem lX0_127 : gML RX0 127 yX3_copyFrom := Or.inl qL_X0_127
theorem lX3_48 : gML RX3 48 yX5_copyFrom := Or.inl qL_X3_48
theorem lX5_23 : gML RX5 23 yX5_at := Or.inl qL_X5_23
theorem lX5_19 : gML RX5 19 yX6_isIndex := Or.inr ⟨_, qMN_X5_19⟩
theorem lX0_130 : gML RX0 130 yX5_copyFrom := Or.inl qL_X0_130
theorem lX6_212 : gML RX6 212 yX0_run := Or.inl qL_X6_212
theorem lX0_64 : gML RX0 64 yX0_move := Or.inl qL_X0_64
theorem lX0_83 : gML RX0 83 yX5_at := Or.inl qL_X0_83
theorem lX0_136 : gML RX0 136 yX0_goOn := Or.inl qL_X0_136
theorem lX0_142 : gML RX0 142 yJ9_min_7cf53 := Or.inl qL_X0_142
theorem lX0_147 : gML RX0 147 yX5_removeFirst := Or.inl qL_X0_147
theorem lX0_139 : gML RX0 139 yX0_goBack := Or.inl qL_X0_139
theorem lX0_150 : gML RX0 150 yJ9_max_7cf53 := Or.inl qL_X0_150
theorem lX0_153 : gML RX0 153 yX0_gateAt := Or.inl qL_X0_153
theorem lX0_163 : gML RX0 163 yX5_addFirst := Or.inl qL_X0_163
theorem lX0_166 : gML RX0 166 yX5_removeLast := Or.inl qL_X0_166
theorem lX0_68 : gML RX0 68 yX0_comeOn := Or.inl qL_X0_68
theorem lX0_169 : gML RX0 169 yX0_hasRoomFor := Or.inl qL_X0_169
theorem lX0_184 : gML RX0 184 yX5_last := Or.inl qL_X0_184
theorem lX0_187 : gML RX0 187 yX0_weightOnBridge := Or.inl qL_X0_187
theorem lX0_177 : gML RX0 177 yX0_pays := Or.inl qL_X0_177
theorem lX0_107 : gML RX0 107 yX0_tollFor := Or.inl qL_X0_107
theorem lX0_193 : gML RX0 193 yX3_take := Or.inl qL_X0_193
theorem lX0_181 : gML RX0 181 yX5_addLast := Or.inl qL_X0_181
theorem lL_141 : gML RL 141 yX6_mean := Or.inl qL_L_141
theorem lX6_235 : gML RX6 235 yX0_meanOverTick := Or.inl qL_X6_235
theorem lL_146 : gML RL 146 yX6_digest := Or.inl qL_L_146
theorem lX6_217 : gML RX6 217 yX6_countOf := Or.inl qL_X6_217
theorem lX6_261 : gML RX6 261 yX0_cartsIn := Or.inl qL_X6_261
theorem lX6_264 : gML RX6 264 yX0_weightOnBridge := Or.inl qL_X6_264
theorem lX6_241 : gML RX6 241 yX6_mixed := Or.inl qL_X6_241
theorem lX6_245 : gML RX6 245 yX2_mixedInto := Or.inl qL_X6_245
theorem lX2_22 : gML RX2 22 yX2_ringsOf := Or.inl qL_X2_22
theorem lX2_32 : gML RX2 32 yX6_isIndex := Or.inr ⟨_, qMN_X2_32⟩
theorem lX2_54 : gML RX2 54 yX6_mixed := Or.inr ⟨_, qMN_X2_54⟩
theorem lX6_249 : gML RX6 249 yX0_mixedInto := Or.inl qL_X6_249
theorem lX0_111 : gML RX0 111 yX3_mixedInto := Or.inl qL_X0_111
theorem lX3_37 : gML RX3 37 yX3_tell := Or.inl qL_X3_37
theorem lX3_41 : gML RX3 41 yX6_mixed := Or.inr ⟨_, qMN_X3_41⟩
theorem lX3_45 : gML RX3 45 yX5_at := Or.inl qL_X3_45
theorem lX0_115 : gML RX0 115 yX0_tellCart := Or.inl qL_X0_115
theorem lX0_103 : gML RX0 103 yX0_placeOf := Or.inl qL_X0_103
theorem lX0_119 : gML RX0 119 yX6_mixed := Or.inr ⟨_, qMN_X0_119⟩
theorem lL_73 : gML RL 73 yL_addSignal := Or.inl qL_L_73
theorem lL_7 : gML RL 7 yX6_addSignal := Or.inl qL_L_7
theorem lX6_33 : gML RX6 33 yX4_lengthOf := Or.inl qL_X6_33
theorem lX6_39 : gML RX6 39 yX6_isBetween := Or.inl qL_X6_39
theorem lX6_50 : gML RX6 50 yX2_isFull := Or.inl qL_X6_50
theorem lX6_54 : gML RX6 54 yX2_isAmbiguousWith := Or.inl qL_X6_54
theorem lX2_26 : gML RX2 26 yX4_isBeginning := Or.inl qL_X2_26
theorem lX4_18 : gML RX4 18 yX4_lengthOf := Or.inl qL_X4_18
theorem lX4_9 : gML RX4 9 yX4_withoutLast := Or.inl qL_X4_9
theorem lX6_63 : gML RX6 63 yX2_add := Or.inl qL_X6_63
theorem lL_83 : gML RL 83 yL_read := Or.inl qL_L_83
theorem lL_17 : gML RL 17 yX6_read := Or.inl qL_L_17
theorem lX6_68 : gML RX6 68 yX6_isIndex := Or.inl qL_X6_68
theorem lX6_77 : gML RX6 77 yX2_readRow := Or.inl qL_X6_77
theorem lX2_35 : gML RX2 35 yX2_signalAtBeginningOf := Or.inl qL_X2_35
theorem lX2_38 : gML RX2 38 yX4_behindBeginning := Or.inl qL_X2_38
theorem lX4_15 : gML RX4 15 yX4_followedBy := Or.inl qL_X4_15
theorem lX2_42 : gML RX2 42 yX4_lengthOf := Or.inl qL_X2_42
theorem lL_87 : gML RL 87 yL_heard := Or.inl qL_L_87
theorem lL_23 : gML RL 23 yX6_heard := Or.inl qL_L_23
theorem lX6_87 : gML RX6 87 yX2_ringsOf := Or.inl qL_X6_87
theorem lX6_93 : gML RX6 93 yX6_ringsHeard := Or.inl qL_X6_93
theorem lX6_252 : gML RX6 252 yX4_ringAt := Or.inl qL_X6_252
theorem lX6_255 : gML RX6 255 yX6_fogIn := Or.inl qL_X6_255
theorem lL_90 : gML RL 90 yL_safe := Or.inl qL_L_90
theorem lL_26 : gML RL 26 yX6_safe := Or.inl qL_L_26
theorem lX6_96 : gML RX6 96 yX2_safeRings := Or.inl qL_X6_96
theorem lX2_45 : gML RX2 45 yX4_withoutRing := Or.inl qL_X2_45
theorem lX2_48 : gML RX2 48 yX2_readRow := Or.inl qL_X2_48
theorem lL_93 : gML RL 93 yL_rows := Or.inl qL_L_93
theorem lL_29 : gML RL 29 yX6_rows := Or.inl qL_L_29
theorem lX6_101 : gML RX6 101 yX2_wholeRows := Or.inl qL_X6_101
theorem lX2_51 : gML RX2 51 yX2_rowsByLastSignal := Or.inl qL_X2_51
theorem lL_96 : gML RL 96 yL_setFog := Or.inl qL_L_96
theorem lL_32 : gML RL 32 yX6_setFog := Or.inl qL_L_32
theorem lL_99 : gML RL 99 yL_rebuild := Or.inl qL_L_99
theorem lL_35 : gML RL 35 yX6_rebuild := Or.inl qL_L_35
theorem lL_102 : gML RL 102 yL_setToll := Or.inl qL_L_102
theorem lL_38 : gML RL 38 yX6_setToll := Or.inl qL_L_38
theorem lL_109 : gML RL 109 yL_come := Or.inl qL_L_109
theorem lL_41 : gML RL 41 yX6_come := Or.inl qL_L_41
theorem lX6_141 : gML RX6 141 yX0_newCart := Or.inl qL_X6_141
theorem lX6_168 : gML RX6 168 yX0_gateAt := Or.inl qL_X6_168
theorem lX6_180 : gML RX6 180 yX5_addLast := Or.inl qL_X6_180
theorem lL_113 : gML RL 113 yL_cart := Or.inl qL_L_113
theorem lL_45 : gML RL 45 yX6_cart := Or.inl qL_L_45
theorem lX6_184 : gML RX6 184 yX0_cartAt := Or.inl qL_X6_184
theorem lX6_190 : gML RX6 190 yX0_tellCart := Or.inl qL_X6_190
theorem lL_116 : gML RL 116 yL_queue := Or.inl qL_L_116
theorem lL_48 : gML RL 48 yX6_queue := Or.inl qL_L_48
theorem lX6_196 : gML RX6 196 yX5_at := Or.inl qL_X6_196
theorem lL_119 : gML RL 119 yL_box := Or.inl qL_L_119
theorem lL_51 : gML RL 51 yX6_box := Or.inl qL_L_51
theorem lX6_201 : gML RX6 201 yX3_tell := Or.inl qL_X6_201
theorem lL_122 : gML RL 122 yL_empty := Or.inl qL_L_122
theorem lL_54 : gML RL 54 yX6_empty := Or.inl qL_L_54
theorem lL_125 : gML RL 125 yL_pass := Or.inl qL_L_125
theorem lL_57 : gML RL 57 yX6_pass := Or.inl qL_L_57
theorem lL_128 : gML RL 128 yL_count := Or.inl qL_L_128
theorem lL_60 : gML RL 60 yX6_count := Or.inl qL_L_60
theorem lL_131 : gML RL 131 yL_over := Or.inl qL_L_131
theorem lL_63 : gML RL 63 yX6_over := Or.inl qL_L_63
theorem lX6_226 : gML RX6 226 yX0_isOver := Or.inl qL_X6_226
theorem lL_138 : gML RL 138 yL_foresee := Or.inl qL_L_138
theorem lL_66 : gML RL 66 yX6_foresee := Or.inl qL_L_66
theorem lX6_231 : gML RX6 231 yX0_coinsInBoxes := Or.inl qL_X6_231
theorem lL_72 : gML RL 72 yX8_init := Or.inl qL_L_72
theorem lX8_1 : gML RX8 1 objectInit := Or.inl qL_X8_1
theorem lX8_31 : gML RX8 31 yX7_init := Or.inl qL_X8_31
theorem lX7_9 : gML RX7 9 objectInit := Or.inl qL_X7_9
theorem lL_79 : gML RL 79 yX8_thrown := Or.inl qL_L_79
theorem lL_78 : gML RL 78 yX8_addSignal := Or.inl qL_L_78
theorem lX8_55 : gML RX8 55 yX8_isRow := Or.inl qL_X8_55
theorem lX8_44 : gML RX8 44 yX8_length := Or.inl qL_X8_44
theorem lX8_48 : gML RX8 48 yX8_isIn := Or.inl qL_X8_48
theorem lX8_59 : gML RX8 59 yX8_no := Or.inl qL_X8_59
theorem lX8_65 : gML RX8 65 yX8_begins := Or.inl qL_X8_65
theorem lX8_52 : gML RX8 52 yX8_ten := Or.inl qL_X8_52
theorem lL_86 : gML RL 86 yX8_read := Or.inl qL_L_86
theorem lX8_68 : gML RX8 68 yX8_beginning := Or.inl qL_X8_68
theorem lX8_71 : gML RX8 71 yX8_behind := Or.inl qL_X8_71
theorem lL_89 : gML RL 89 yX8_heard := Or.inl qL_L_89
theorem lX8_75 : gML RX8 75 yX8_isSignal := Or.inl qL_X8_75
theorem lL_92 : gML RL 92 yX8_safe := Or.inl qL_L_92
theorem lX8_82 : gML RX8 82 yX8_isWhole := Or.inl qL_X8_82
theorem lL_95 : gML RL 95 yX8_rows := Or.inl qL_L_95
theorem lL_98 : gML RL 98 yX8_setFog := Or.inl qL_L_98
theorem lL_101 : gML RL 101 yX8_rebuild := Or.inl qL_L_101
theorem lX8_85 : gML RX8 85 yX7_how := Or.inl qL_X8_85
theorem lX7_52 : gML RX7 52 yX7_own := Or.inl qL_X7_52
theorem lL_104 : gML RL 104 yX8_setToll := Or.inl qL_L_104
theorem lL_108 : gML RL 108 yX8_change := Or.inl qL_L_108
theorem lL_112 : gML RL 112 yX8_come := Or.inl qL_L_112
theorem lX8_97 : gML RX8 97 arraycopyName := Or.inl qL_X8_97
theorem lX8_106 : gML RX8 106 yX7_line := Or.inl qL_X8_106
theorem lX7_28 : gML RX7 28 arraycopyName := Or.inl qL_X7_28
theorem lX7_48 : gML RX7 48 yX7_set := Or.inl qL_X7_48
theorem lL_115 : gML RL 115 yX8_cart := Or.inl qL_L_115
theorem lX8_113 : gML RX8 113 yX8_isCart := Or.inl qL_X8_113
theorem lX8_116 : gML RX8 116 yX8_cartTold := Or.inl qL_X8_116
theorem lX8_110 : gML RX8 110 yX7_own := Or.inr ⟨_, qMN_X8_110⟩
theorem lL_118 : gML RL 118 yX8_queue := Or.inl qL_L_118
theorem lL_121 : gML RL 121 yX8_box := Or.inl qL_L_121
theorem lL_124 : gML RL 124 yX8_empty := Or.inl qL_L_124
theorem lL_127 : gML RL 127 yX8_pass := Or.inl qL_L_127
theorem lX8_122 : gML RX8 122 yX7_pass := Or.inl qL_X8_122
theorem lX7_87 : gML RX7 87 yX7_how := Or.inl qL_X7_87
theorem lX7_90 : gML RX7 90 yX7_move := Or.inl qL_X7_90
theorem lX7_62 : gML RX7 62 yX7_leave := Or.inl qL_X7_62
theorem lX7_56 : gML RX7 56 yX7_line := Or.inl qL_X7_56
theorem lX7_93 : gML RX7 93 yX7_comeOn := Or.inl qL_X7_93
theorem lX7_66 : gML RX7 66 yX7_isBack := Or.inl qL_X7_66
theorem lX7_70 : gML RX7 70 yX7_weight := Or.inl qL_X7_70
theorem lX7_77 : gML RX7 77 yX7_first := Or.inl qL_X7_77
theorem lL_130 : gML RL 130 yX8_count := Or.inl qL_L_130
theorem lX8_129 : gML RX8 129 yX8_counted := Or.inl qL_X8_129
theorem lX8_126 : gML RX8 126 yX7_weight := Or.inl qL_X8_126
theorem lL_133 : gML RL 133 yX8_over := Or.inl qL_L_133
theorem lX8_132 : gML RX8 132 yX7_become := Or.inl qL_X8_132
theorem lX7_44 : gML RX7 44 yX7_copy := Or.inl qL_X7_44
theorem lL_137 : gML RL 137 yX8_keep := Or.inl qL_L_137
theorem lX8_136 : gML RX8 136 yX8_overBy := Or.inl qL_X8_136
theorem lL_140 : gML RL 140 yX8_foresee := Or.inl qL_L_140
theorem lL_145 : gML RL 145 yX8_mean := Or.inl qL_L_145
theorem lL_150 : gML RL 150 yX8_digest := Or.inl qL_L_150
theorem mX6_change : gCV yX6_change cX6_change 1 (some .int) 0 := ⟨qI_yX6_change, qS_yX6_change, qC_yX6_change, qN_X6, by decide +kernel, by decide +kernel⟩
theorem mX0_turn : gCV yX0_turn cX0_turn 1 none 0 := ⟨qI_yX0_turn, qS_yX0_turn, qC_yX0_turn, qN_X0, by decide +kernel, by decide +kernel⟩
theorem mX6_keep : gCV yX6_keep cX6_keep 6 (some .int) 0 := ⟨qI_yX6_keep, qS_yX6_keep, qC_yX6_keep, qN_X6, by decide +kernel, by decide +kernel⟩
theorem mX0_copyFrom : gCV yX0_copyFrom cX0_copyFrom 5 none 1 := ⟨qI_yX0_copyFrom, qS_yX0_copyFrom, qC_yX0_copyFrom, qN_X0, by decide +kernel, by decide +kernel⟩
theorem mX0_cartAt : gCV yX0_cartAt cX0_cartAt 2 (some (.object "FogBridge$Cart")) 1 := ⟨qI_yX0_cartAt, qS_yX0_cartAt, qC_yX0_cartAt, qN_X0, by decide +kernel, by decide +kernel⟩
theorem mX6_isIndex : gCS yX6_isIndex cX6_isIndex 2 (some .boolean) 2 := ⟨qT_yX6_isIndex, qC_yX6_isIndex, qN_X6, by decide +kernel, by decide +kernel⟩
theorem mX1_copyFrom : gCV yX1_copyFrom cX1_copyFrom 2 none 1 := ⟨qI_yX1_copyFrom, qS_yX1_copyFrom, qC_yX1_copyFrom, qN_X1, by decide +kernel, by decide +kernel⟩
theorem mX3_copyFrom : gCV yX3_copyFrom cX3_copyFrom 2 none 1 := ⟨qI_yX3_copyFrom, qS_yX3_copyFrom, qC_yX3_copyFrom, qN_X3, by decide +kernel, by decide +kernel⟩
theorem mX5_copyFrom : gCV yX5_copyFrom cX5_copyFrom 3 none 1 := ⟨qI_yX5_copyFrom, qS_yX5_copyFrom, qC_yX5_copyFrom, qN_X5, by decide +kernel, by decide +kernel⟩
theorem mX5_at : gCV yX5_at cX5_at 2 (some .int) 1 := ⟨qI_yX5_at, qS_yX5_at, qC_yX5_at, qN_X5, by decide +kernel, by decide +kernel⟩
theorem mX0_run : gCV yX0_run cX0_run 4 (some .int) 1 := ⟨qI_yX0_run, qS_yX0_run, qC_yX0_run, qN_X0, by decide +kernel, by decide +kernel⟩
theorem mX0_move : gCV yX0_move cX0_move 2 (some .int) 0 := ⟨qI_yX0_move, qS_yX0_move, qC_yX0_move, qN_X0, by decide +kernel, by decide +kernel⟩
theorem mX0_goOn : gCV yX0_goOn cX0_goOn 6 (some .int) 0 := ⟨qI_yX0_goOn, qS_yX0_goOn, qC_yX0_goOn, qN_X0, by decide +kernel, by decide +kernel⟩
theorem mJ9_min_7cf53 : gCS yJ9_min_7cf53 cJ9_min_7cf53 2 (some .int) 2 := ⟨qT_yJ9_min_7cf53, qC_yJ9_min_7cf53, qN_J9, by decide +kernel, by decide +kernel⟩
theorem mX5_removeFirst : gCV yX5_removeFirst cX5_removeFirst 2 none 0 := ⟨qI_yX5_removeFirst, qS_yX5_removeFirst, qC_yX5_removeFirst, qN_X5, by decide +kernel, by decide +kernel⟩
theorem mX0_goBack : gCV yX0_goBack cX0_goBack 5 none 0 := ⟨qI_yX0_goBack, qS_yX0_goBack, qC_yX0_goBack, qN_X0, by decide +kernel, by decide +kernel⟩
theorem mJ9_max_7cf53 : gCS yJ9_max_7cf53 cJ9_max_7cf53 2 (some .int) 2 := ⟨qT_yJ9_max_7cf53, qC_yJ9_max_7cf53, qN_J9, by decide +kernel, by decide +kernel⟩
theorem mX0_gateAt : gCV yX0_gateAt cX0_gateAt 2 (some (.object "FogBridge$Gate")) 1 := ⟨qI_yX0_gateAt, qS_yX0_gateAt, qC_yX0_gateAt, qN_X0, by decide +kernel, by decide +kernel⟩
theorem mX5_addFirst : gCV yX5_addFirst cX5_addFirst 3 none 1 := ⟨qI_yX5_addFirst, qS_yX5_addFirst, qC_yX5_addFirst, qN_X5, by decide +kernel, by decide +kernel⟩
theorem mX5_removeLast : gCV yX5_removeLast cX5_removeLast 1 none 0 := ⟨qI_yX5_removeLast, qS_yX5_removeLast, qC_yX5_removeLast, qN_X5, by decide +kernel, by decide +kernel⟩
theorem mX0_comeOn : gCV yX0_comeOn cX0_comeOn 3 none 0 := ⟨qI_yX0_comeOn, qS_yX0_comeOn, qC_yX0_comeOn, qN_X0, by decide +kernel, by decide +kernel⟩
theorem mX0_hasRoomFor : gCV yX0_hasRoomFor cX0_hasRoomFor 4 (some .boolean) 1 := ⟨qI_yX0_hasRoomFor, qS_yX0_hasRoomFor, qC_yX0_hasRoomFor, qN_X0, by decide +kernel, by decide +kernel⟩
theorem mX5_last : gCV yX5_last cX5_last 1 (some .int) 0 := ⟨qI_yX5_last, qS_yX5_last, qC_yX5_last, qN_X5, by decide +kernel, by decide +kernel⟩
theorem mX0_weightOnBridge : gCV yX0_weightOnBridge cX0_weightOnBridge 4 (some .int) 0 := ⟨qI_yX0_weightOnBridge, qS_yX0_weightOnBridge, qC_yX0_weightOnBridge, qN_X0, by decide +kernel, by decide +kernel⟩
theorem mX0_pays : gCV yX0_pays cX0_pays 5 (some .boolean) 2 := ⟨qI_yX0_pays, qS_yX0_pays, qC_yX0_pays, qN_X0, by decide +kernel, by decide +kernel⟩
theorem mX0_tollFor : gCV yX0_tollFor cX0_tollFor 3 (some .int) 2 := ⟨qI_yX0_tollFor, qS_yX0_tollFor, qC_yX0_tollFor, qN_X0, by decide +kernel, by decide +kernel⟩
theorem mX3_take : gCV yX3_take cX3_take 4 none 3 := ⟨qI_yX3_take, qS_yX3_take, qC_yX3_take, qN_X3, by decide +kernel, by decide +kernel⟩
theorem mX5_addLast : gCV yX5_addLast cX5_addLast 2 none 1 := ⟨qI_yX5_addLast, qS_yX5_addLast, qC_yX5_addLast, qN_X5, by decide +kernel, by decide +kernel⟩
theorem mX6_mean : gCV yX6_mean cX6_mean 1 (some .double) 0 := ⟨qI_yX6_mean, qS_yX6_mean, qC_yX6_mean, qN_X6, by decide +kernel, by decide +kernel⟩
theorem mX0_meanOverTick : gCV yX0_meanOverTick cX0_meanOverTick 6 (some .double) 0 := ⟨qI_yX0_meanOverTick, qS_yX0_meanOverTick, qC_yX0_meanOverTick, qN_X0, by decide +kernel, by decide +kernel⟩
theorem mX6_digest : gCV yX6_digest cX6_digest 4 (some .long) 0 := ⟨qI_yX6_digest, qS_yX6_digest, qC_yX6_digest, qN_X6, by decide +kernel, by decide +kernel⟩
theorem mX6_countOf : gCV yX6_countOf cX6_countOf 2 (some .int) 1 := ⟨qI_yX6_countOf, qS_yX6_countOf, qC_yX6_countOf, qN_X6, by decide +kernel, by decide +kernel⟩
theorem mX0_cartsIn : gCV yX0_cartsIn cX0_cartsIn 5 (some .int) 1 := ⟨qI_yX0_cartsIn, qS_yX0_cartsIn, qC_yX0_cartsIn, qN_X0, by decide +kernel, by decide +kernel⟩
theorem mX6_mixed : gCS yX6_mixed cX6_mixed 3 (some .long) 2 := ⟨qT_yX6_mixed, qC_yX6_mixed, qN_X6, by decide +kernel, by decide +kernel⟩
theorem mX2_mixedInto : gCV yX2_mixedInto cX2_mixedInto 6 (some .long) 1 := ⟨qI_yX2_mixedInto, qS_yX2_mixedInto, qC_yX2_mixedInto, qN_X2, by decide +kernel, by decide +kernel⟩
theorem mX2_ringsOf : gCV yX2_ringsOf cX2_ringsOf 2 (some .int) 1 := ⟨qI_yX2_ringsOf, qS_yX2_ringsOf, qC_yX2_ringsOf, qN_X2, by decide +kernel, by decide +kernel⟩
theorem mX0_mixedInto : gCV yX0_mixedInto cX0_mixedInto 8 (some .long) 1 := ⟨qI_yX0_mixedInto, qS_yX0_mixedInto, qC_yX0_mixedInto, qN_X0, by decide +kernel, by decide +kernel⟩
theorem mX3_mixedInto : gCV yX3_mixedInto cX3_mixedInto 6 (some .long) 1 := ⟨qI_yX3_mixedInto, qS_yX3_mixedInto, qC_yX3_mixedInto, qN_X3, by decide +kernel, by decide +kernel⟩
theorem mX3_tell : gCV yX3_tell cX3_tell 2 (some .int) 1 := ⟨qI_yX3_tell, qS_yX3_tell, qC_yX3_tell, qN_X3, by decide +kernel, by decide +kernel⟩
theorem mX0_tellCart : gCV yX0_tellCart cX0_tellCart 3 (some .int) 2 := ⟨qI_yX0_tellCart, qS_yX0_tellCart, qC_yX0_tellCart, qN_X0, by decide +kernel, by decide +kernel⟩
theorem mX0_placeOf : gCV yX0_placeOf cX0_placeOf 2 (some .int) 1 := ⟨qI_yX0_placeOf, qS_yX0_placeOf, qC_yX0_placeOf, qN_X0, by decide +kernel, by decide +kernel⟩
theorem mX6_addSignal : gCV yX6_addSignal cX6_addSignal 2 (some .int) 1 := ⟨qI_yX6_addSignal, qS_yX6_addSignal, qC_yX6_addSignal, qN_X6, by decide +kernel, by decide +kernel⟩
theorem mX4_lengthOf : gCS yX4_lengthOf cX4_lengthOf 4 (some .int) 1 := ⟨qT_yX4_lengthOf, qC_yX4_lengthOf, qN_X4, by decide +kernel, by decide +kernel⟩
theorem mX6_isBetween : gCS yX6_isBetween cX6_isBetween 3 (some .boolean) 3 := ⟨qT_yX6_isBetween, qC_yX6_isBetween, qN_X6, by decide +kernel, by decide +kernel⟩
theorem mX2_isFull : gCV yX2_isFull cX2_isFull 1 (some .boolean) 0 := ⟨qI_yX2_isFull, qS_yX2_isFull, qC_yX2_isFull, qN_X2, by decide +kernel, by decide +kernel⟩
theorem mX2_isAmbiguousWith : gCV yX2_isAmbiguousWith cX2_isAmbiguousWith 4 (some .boolean) 1 := ⟨qI_yX2_isAmbiguousWith, qS_yX2_isAmbiguousWith, qC_yX2_isAmbiguousWith, qN_X2, by decide +kernel, by decide +kernel⟩
theorem mX4_isBeginning : gCS yX4_isBeginning cX4_isBeginning 3 (some .boolean) 2 := ⟨qT_yX4_isBeginning, qC_yX4_isBeginning, qN_X4, by decide +kernel, by decide +kernel⟩
theorem mX4_withoutLast : gCS yX4_withoutLast cX4_withoutLast 4 (some .int) 2 := ⟨qT_yX4_withoutLast, qC_yX4_withoutLast, qN_X4, by decide +kernel, by decide +kernel⟩
theorem mX2_add : gCV yX2_add cX2_add 2 (some .int) 1 := ⟨qI_yX2_add, qS_yX2_add, qC_yX2_add, qN_X2, by decide +kernel, by decide +kernel⟩
theorem mX6_read : gCV yX6_read cX6_read 3 (some .int) 2 := ⟨qI_yX6_read, qS_yX6_read, qC_yX6_read, qN_X6, by decide +kernel, by decide +kernel⟩
theorem mX2_readRow : gCV yX2_readRow cX2_readRow 8 (some .int) 2 := ⟨qI_yX2_readRow, qS_yX2_readRow, qC_yX2_readRow, qN_X2, by decide +kernel, by decide +kernel⟩
theorem mX2_signalAtBeginningOf : gCV yX2_signalAtBeginningOf cX2_signalAtBeginningOf 3 (some .int) 1 := ⟨qI_yX2_signalAtBeginningOf, qS_yX2_signalAtBeginningOf, qC_yX2_signalAtBeginningOf, qN_X2, by decide +kernel, by decide +kernel⟩
theorem mX4_behindBeginning : gCS yX4_behindBeginning cX4_behindBeginning 2 (some .int) 2 := ⟨qT_yX4_behindBeginning, qC_yX4_behindBeginning, qN_X4, by decide +kernel, by decide +kernel⟩
theorem mX4_followedBy : gCS yX4_followedBy cX4_followedBy 4 (some .int) 2 := ⟨qT_yX4_followedBy, qC_yX4_followedBy, qN_X4, by decide +kernel, by decide +kernel⟩
theorem mX6_heard : gCV yX6_heard cX6_heard 2 (some .int) 1 := ⟨qI_yX6_heard, qS_yX6_heard, qC_yX6_heard, qN_X6, by decide +kernel, by decide +kernel⟩
theorem mX6_ringsHeard : gCV yX6_ringsHeard cX6_ringsHeard 8 (some .int) 2 := ⟨qI_yX6_ringsHeard, qS_yX6_ringsHeard, qC_yX6_ringsHeard, qN_X6, by decide +kernel, by decide +kernel⟩
theorem mX4_ringAt : gCS yX4_ringAt cX4_ringAt 2 (some .int) 2 := ⟨qT_yX4_ringAt, qC_yX4_ringAt, qN_X4, by decide +kernel, by decide +kernel⟩
theorem mX6_fogIn : gCV yX6_fogIn cX6_fogIn 3 (some .int) 1 := ⟨qI_yX6_fogIn, qS_yX6_fogIn, qC_yX6_fogIn, qN_X6, by decide +kernel, by decide +kernel⟩
theorem mX6_safe : gCV yX6_safe cX6_safe 2 (some .int) 1 := ⟨qI_yX6_safe, qS_yX6_safe, qC_yX6_safe, qN_X6, by decide +kernel, by decide +kernel⟩
theorem mX2_safeRings : gCV yX2_safeRings cX2_safeRings 6 (some .int) 1 := ⟨qI_yX2_safeRings, qS_yX2_safeRings, qC_yX2_safeRings, qN_X2, by decide +kernel, by decide +kernel⟩
theorem mX4_withoutRing : gCS yX4_withoutRing cX4_withoutRing 3 (some .int) 2 := ⟨qT_yX4_withoutRing, qC_yX4_withoutRing, qN_X4, by decide +kernel, by decide +kernel⟩
theorem mX6_rows : gCV yX6_rows cX6_rows 2 (some .int) 1 := ⟨qI_yX6_rows, qS_yX6_rows, qC_yX6_rows, qN_X6, by decide +kernel, by decide +kernel⟩
theorem mX2_wholeRows : gCV yX2_wholeRows cX2_wholeRows 3 (some .int) 1 := ⟨qI_yX2_wholeRows, qS_yX2_wholeRows, qC_yX2_wholeRows, qN_X2, by decide +kernel, by decide +kernel⟩
theorem mX2_rowsByLastSignal : gCV yX2_rowsByLastSignal cX2_rowsByLastSignal 5 (some .int) 1 := ⟨qI_yX2_rowsByLastSignal, qS_yX2_rowsByLastSignal, qC_yX2_rowsByLastSignal, qN_X2, by decide +kernel, by decide +kernel⟩
theorem mX6_setFog : gCV yX6_setFog cX6_setFog 4 (some .int) 2 := ⟨qI_yX6_setFog, qS_yX6_setFog, qC_yX6_setFog, qN_X6, by decide +kernel, by decide +kernel⟩
theorem mX6_rebuild : gCV yX6_rebuild cX6_rebuild 4 (some .int) 2 := ⟨qI_yX6_rebuild, qS_yX6_rebuild, qC_yX6_rebuild, qN_X6, by decide +kernel, by decide +kernel⟩
theorem mX6_setToll : gCV yX6_setToll cX6_setToll 4 (some .int) 2 := ⟨qI_yX6_setToll, qS_yX6_setToll, qC_yX6_setToll, qN_X6, by decide +kernel, by decide +kernel⟩
theorem mX6_come : gCV yX6_come cX6_come 8 (some .int) 6 := ⟨qI_yX6_come, qS_yX6_come, qC_yX6_come, qN_X6, by decide +kernel, by decide +kernel⟩
theorem mX0_newCart : gCV yX0_newCart cX0_newCart 1 (some (.object "FogBridge$Cart")) 0 := ⟨qI_yX0_newCart, qS_yX0_newCart, qC_yX0_newCart, qN_X0, by decide +kernel, by decide +kernel⟩
theorem mX6_cart : gCV yX6_cart cX6_cart 4 (some .int) 2 := ⟨qI_yX6_cart, qS_yX6_cart, qC_yX6_cart, qN_X6, by decide +kernel, by decide +kernel⟩
theorem mX6_queue : gCV yX6_queue cX6_queue 3 (some .int) 2 := ⟨qI_yX6_queue, qS_yX6_queue, qC_yX6_queue, qN_X6, by decide +kernel, by decide +kernel⟩
theorem mX6_box : gCV yX6_box cX6_box 3 (some .int) 2 := ⟨qI_yX6_box, qS_yX6_box, qC_yX6_box, qN_X6, by decide +kernel, by decide +kernel⟩
theorem mX6_empty : gCV yX6_empty cX6_empty 4 (some .int) 1 := ⟨qI_yX6_empty, qS_yX6_empty, qC_yX6_empty, qN_X6, by decide +kernel, by decide +kernel⟩
theorem mX6_pass : gCV yX6_pass cX6_pass 2 (some .int) 1 := ⟨qI_yX6_pass, qS_yX6_pass, qC_yX6_pass, qN_X6, by decide +kernel, by decide +kernel⟩
theorem mX6_count : gCV yX6_count cX6_count 2 (some .int) 1 := ⟨qI_yX6_count, qS_yX6_count, qC_yX6_count, qN_X6, by decide +kernel, by decide +kernel⟩
theorem mX6_over : gCV yX6_over cX6_over 3 (some .int) 1 := ⟨qI_yX6_over, qS_yX6_over, qC_yX6_over, qN_X6, by decide +kernel, by decide +kernel⟩
theorem mX0_isOver : gCV yX0_isOver cX0_isOver 3 (some .boolean) 1 := ⟨qI_yX0_isOver, qS_yX0_isOver, qC_yX0_isOver, qN_X0, by decide +kernel, by decide +kernel⟩
theorem mX6_foresee : gCV yX6_foresee cX6_foresee 4 (some .int) 2 := ⟨qI_yX6_foresee, qS_yX6_foresee, qC_yX6_foresee, qN_X6, by decide +kernel, by decide +kernel⟩
theorem mX0_coinsInBoxes : gCV yX0_coinsInBoxes cX0_coinsInBoxes 1 (some .int) 0 := ⟨qI_yX0_coinsInBoxes, qS_yX0_coinsInBoxes, qC_yX0_coinsInBoxes, qN_X0, by decide +kernel, by decide +kernel⟩
theorem mX8_thrown : gCV yX8_thrown cX8_thrown 1 (some .int) 0 := ⟨qI_yX8_thrown, qS_yX8_thrown, qC_yX8_thrown, qN_X8, by decide +kernel, by decide +kernel⟩
theorem mX8_addSignal : gCV yX8_addSignal cX8_addSignal 3 (some .int) 1 := ⟨qI_yX8_addSignal, qS_yX8_addSignal, qC_yX8_addSignal, qN_X8, by decide +kernel, by decide +kernel⟩
theorem mX8_isRow : gCS yX8_isRow cX8_isRow 4 (some .boolean) 2 := ⟨qT_yX8_isRow, qC_yX8_isRow, qN_X8, by decide +kernel, by decide +kernel⟩
theorem mX8_length : gCS yX8_length cX8_length 3 (some .int) 1 := ⟨qT_yX8_length, qC_yX8_length, qN_X8, by decide +kernel, by decide +kernel⟩
theorem mX8_isIn : gCS yX8_isIn cX8_isIn 3 (some .boolean) 3 := ⟨qT_yX8_isIn, qC_yX8_isIn, qN_X8, by decide +kernel, by decide +kernel⟩
theorem mX8_no : gCV yX8_no cX8_no 2 (some .int) 1 := ⟨qI_yX8_no, qS_yX8_no, qC_yX8_no, qN_X8, by decide +kernel, by decide +kernel⟩
theorem mX8_begins : gCS yX8_begins cX8_begins 3 (some .boolean) 2 := ⟨qT_yX8_begins, qC_yX8_begins, qN_X8, by decide +kernel, by decide +kernel⟩
theorem mX8_ten : gCS yX8_ten cX8_ten 3 (some .int) 1 := ⟨qT_yX8_ten, qC_yX8_ten, qN_X8, by decide +kernel, by decide +kernel⟩
theorem mX8_read : gCV yX8_read cX8_read 7 (some .int) 2 := ⟨qI_yX8_read, qS_yX8_read, qC_yX8_read, qN_X8, by decide +kernel, by decide +kernel⟩
theorem mX8_beginning : gCV yX8_beginning cX8_beginning 3 (some .int) 1 := ⟨qI_yX8_beginning, qS_yX8_beginning, qC_yX8_beginning, qN_X8, by decide +kernel, by decide +kernel⟩
theorem mX8_behind : gCV yX8_behind cX8_behind 3 (some .int) 2 := ⟨qI_yX8_behind, qS_yX8_behind, qC_yX8_behind, qN_X8, by decide +kernel, by decide +kernel⟩
theorem mX8_heard : gCV yX8_heard cX8_heard 6 (some .int) 1 := ⟨qI_yX8_heard, qS_yX8_heard, qC_yX8_heard, qN_X8, by decide +kernel, by decide +kernel⟩
theorem mX8_isSignal : gCV yX8_isSignal cX8_isSignal 2 (some .boolean) 1 := ⟨qI_yX8_isSignal, qS_yX8_isSignal, qC_yX8_isSignal, qN_X8, by decide +kernel, by decide +kernel⟩
theorem mX8_safe : gCV yX8_safe cX8_safe 4 (some .int) 1 := ⟨qI_yX8_safe, qS_yX8_safe, qC_yX8_safe, qN_X8, by decide +kernel, by decide +kernel⟩
theorem mX8_isWhole : gCV yX8_isWhole cX8_isWhole 4 (some .boolean) 1 := ⟨qI_yX8_isWhole, qS_yX8_isWhole, qC_yX8_isWhole, qN_X8, by decide +kernel, by decide +kernel⟩
theorem mX8_rows : gCV yX8_rows cX8_rows 5 (some .int) 1 := ⟨qI_yX8_rows, qS_yX8_rows, qC_yX8_rows, qN_X8, by decide +kernel, by decide +kernel⟩
theorem mX8_setFog : gCV yX8_setFog cX8_setFog 4 (some .int) 2 := ⟨qI_yX8_setFog, qS_yX8_setFog, qC_yX8_setFog, qN_X8, by decide +kernel, by decide +kernel⟩
theorem mX8_rebuild : gCV yX8_rebuild cX8_rebuild 4 (some .int) 2 := ⟨qI_yX8_rebuild, qS_yX8_rebuild, qC_yX8_rebuild, qN_X8, by decide +kernel, by decide +kernel⟩
theorem mX7_how : gCV yX7_how cX7_how 4 (some .int) 1 := ⟨qI_yX7_how, qS_yX7_how, qC_yX7_how, qN_X7, by decide +kernel, by decide +kernel⟩
theorem mX7_own : gCV yX7_own cX7_own 3 (some .int) 2 := ⟨qI_yX7_own, qS_yX7_own, qC_yX7_own, qN_X7, by decide +kernel, by decide +kernel⟩
theorem mX8_setToll : gCV yX8_setToll cX8_setToll 4 (some .int) 2 := ⟨qI_yX8_setToll, qS_yX8_setToll, qC_yX8_setToll, qN_X8, by decide +kernel, by decide +kernel⟩
theorem mX8_change : gCV yX8_change cX8_change 1 (some .int) 0 := ⟨qI_yX8_change, qS_yX8_change, qC_yX8_change, qN_X8, by decide +kernel, by decide +kernel⟩
theorem mX8_come : gCV yX8_come cX8_come 8 (some .int) 6 := ⟨qI_yX8_come, qS_yX8_come, qC_yX8_come, qN_X8, by decide +kernel, by decide +kernel⟩
theorem mX7_line : gCV yX7_line cX7_line 5 none 3 := ⟨qI_yX7_line, qS_yX7_line, qC_yX7_line, qN_X7, by decide +kernel, by decide +kernel⟩
theorem mX7_set : gCV yX7_set cX7_set 4 none 3 := ⟨qI_yX7_set, qS_yX7_set, qC_yX7_set, qN_X7, by decide +kernel, by decide +kernel⟩
theorem mX8_cart : gCV yX8_cart cX8_cart 3 (some .int) 2 := ⟨qI_yX8_cart, qS_yX8_cart, qC_yX8_cart, qN_X8, by decide +kernel, by decide +kernel⟩
theorem mX8_isCart : gCV yX8_isCart cX8_isCart 2 (some .boolean) 1 := ⟨qI_yX8_isCart, qS_yX8_isCart, qC_yX8_isCart, qN_X8, by decide +kernel, by decide +kernel⟩
theorem mX8_cartTold : gCV yX8_cartTold cX8_cartTold 3 (some .int) 2 := ⟨qI_yX8_cartTold, qS_yX8_cartTold, qC_yX8_cartTold, qN_X8, by decide +kernel, by decide +kernel⟩
theorem mX8_queue : gCV yX8_queue cX8_queue 3 (some .int) 2 := ⟨qI_yX8_queue, qS_yX8_queue, qC_yX8_queue, qN_X8, by decide +kernel, by decide +kernel⟩
theorem mX8_box : gCV yX8_box cX8_box 3 (some .int) 2 := ⟨qI_yX8_box, qS_yX8_box, qC_yX8_box, qN_X8, by decide +kernel, by decide +kernel⟩
theorem mX8_empty : gCV yX8_empty cX8_empty 3 (some .int) 1 := ⟨qI_yX8_empty, qS_yX8_empty, qC_yX8_empty, qN_X8, by decide +kernel, by decide +kernel⟩
theorem mX8_pass : gCV yX8_pass cX8_pass 4 (some .int) 1 := ⟨qI_yX8_pass, qS_yX8_pass, qC_yX8_pass, qN_X8, by decide +kernel, by decide +kernel⟩
theorem mX7_pass : gCV yX7_pass cX7_pass 4 (some .int) 0 := ⟨qI_yX7_pass, qS_yX7_pass, qC_yX7_pass, qN_X7, by decide +kernel, by decide +kernel⟩
theorem mX7_move : gCV yX7_move cX7_move 6 none 1 := ⟨qI_yX7_move, qS_yX7_move, qC_yX7_move, qN_X7, by decide +kernel, by decide +kernel⟩
theorem mX7_leave : gCV yX7_leave cX7_leave 2 none 1 := ⟨qI_yX7_leave, qS_yX7_leave, qC_yX7_leave, qN_X7, by decide +kernel, by decide +kernel⟩
theorem mX7_comeOn : gCV yX7_comeOn cX7_comeOn 5 none 0 := ⟨qI_yX7_comeOn, qS_yX7_comeOn, qC_yX7_comeOn, qN_X7, by decide +kernel, by decide +kernel⟩
theorem mX7_isBack : gCV yX7_isBack cX7_isBack 3 (some .boolean) 0 := ⟨qI_yX7_isBack, qS_yX7_isBack, qC_yX7_isBack, qN_X7, by decide +kernel, by decide +kernel⟩
theorem mX7_weight : gCV yX7_weight cX7_weight 3 (some .int) 0 := ⟨qI_yX7_weight, qS_yX7_weight, qC_yX7_weight, qN_X7, by decide +kernel, by decide +kernel⟩
theorem mX7_first : gCV yX7_first cX7_first 3 (some .int) 1 := ⟨qI_yX7_first, qS_yX7_first, qC_yX7_first, qN_X7, by decide +kernel, by decide +kernel⟩
theorem mX8_count : gCV yX8_count cX8_count 2 (some .int) 1 := ⟨qI_yX8_count, qS_yX8_count, qC_yX8_count, qN_X8, by decide +kernel, by decide +kernel⟩
theorem mX8_counted : gCV yX8_counted cX8_counted 3 (some .int) 1 := ⟨qI_yX8_counted, qS_yX8_counted, qC_yX8_counted, qN_X8, by decide +kernel, by decide +kernel⟩
theorem mX8_over : gCV yX8_over cX8_over 4 (some .int) 1 := ⟨qI_yX8_over, qS_yX8_over, qC_yX8_over, qN_X8, by decide +kernel, by decide +kernel⟩
theorem mX7_become : gCV yX7_become cX7_become 2 none 1 := ⟨qI_yX7_become, qS_yX7_become, qC_yX7_become, qN_X7, by decide +kernel, by decide +kernel⟩
theorem mX7_copy : gCV yX7_copy cX7_copy 3 none 2 := ⟨qI_yX7_copy, qS_yX7_copy, qC_yX7_copy, qN_X7, by decide +kernel, by decide +kernel⟩
theorem mX8_keep : gCV yX8_keep cX8_keep 5 (some .int) 0 := ⟨qI_yX8_keep, qS_yX8_keep, qC_yX8_keep, qN_X8, by decide +kernel, by decide +kernel⟩
theorem mX8_overBy : gCV yX8_overBy cX8_overBy 3 (some .int) 1 := ⟨qI_yX8_overBy, qS_yX8_overBy, qC_yX8_overBy, qN_X8, by decide +kernel, by decide +kernel⟩
theorem mX8_foresee : gCV yX8_foresee cX8_foresee 4 (some .int) 2 := ⟨qI_yX8_foresee, qS_yX8_foresee, qC_yX8_foresee, qN_X8, by decide +kernel, by decide +kernel⟩
theorem mX8_mean : gCV yX8_mean cX8_mean 4 (some .double) 0 := ⟨qI_yX8_mean, qS_yX8_mean, qC_yX8_mean, qN_X8, by decide +kernel, by decide +kernel⟩
theorem mX8_digest : gCV yX8_digest cX8_digest 5 (some .long) 0 := ⟨qI_yX8_digest, qS_yX8_digest, qC_yX8_digest, qN_X8, by decide +kernel, by decide +kernel⟩
