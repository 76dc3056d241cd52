set_option maxRecDepth 100000 in
theorem jwfS0 : (List.range' 0 20).all (fun k => (jtb k).all (jwf k)) = true := by decide +kernel
set_option maxRecDepth 100000 in
theorem jwfS1 : (List.range' 20 20).all (fun k => (jtb k).all (jwf k)) = true := by decide +kernel
set_option maxRecDepth 100000 in
theorem jwfS2 : (List.range' 40 20).all (fun k => (jtb k).all (jwf k)) = true := by decide +kernel
set_option maxRecDepth 100000 in
theorem jwfS3 : (List.range' 60 20).all (fun k => (jtb k).all (jwf k)) = true := by decide +kernel
set_option maxRecDepth 100000 in
theorem jwfS4 : (List.range' 80 20).all (fun k => (jtb k).all (jwf k)) = true := by decide +kernel
set_option maxRecDepth 100000 in
theorem jwfS5 : (List.range' 100 20).all (fun k => (jtb k).all (jwf k)) = true := by decide +kernel
set_option maxRecDepth 100000 in
theorem jwfS6 : (List.range' 120 20).all (fun k => (jtb k).all (jwf k)) = true := by decide +kernel
set_option maxRecDepth 100000 in
theorem jwfS7 : (List.range' 140 20).all (fun k => (jtb k).all (jwf k)) = true := by decide +kernel
set_option maxRecDepth 100000 in
theorem jwfS8 : (List.range' 160 20).all (fun k => (jtb k).all (jwf k)) = true := by decide +kernel
set_option maxRecDepth 100000 in
theorem jwfS9 : (List.range' 180 20).all (fun k => (jtb k).all (jwf k)) = true := by decide +kernel
set_option maxRecDepth 100000 in
theorem jwfS10 : (List.range' 200 20).all (fun k => (jtb k).all (jwf k)) = true := by decide +kernel
set_option maxRecDepth 100000 in
theorem jwfS11 : (List.range' 220 1).all (fun k => (jtb k).all (jwf k)) = true := by decide +kernel
