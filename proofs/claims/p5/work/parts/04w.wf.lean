set_option maxRecDepth 100000 in
theorem jwgS0 : (List.range' 0 20).all (fun k => (jtb k).all (jwg k)) = true := by decide +kernel
theorem jwfS0 : (List.range' 0 20).all (fun k => (jtb k).all (jwf k)) = true := jwg_up jwgS0
set_option maxRecDepth 100000 in
theorem jwgS1 : (List.range' 20 20).all (fun k => (jtb k).all (jwg k)) = true := by decide +kernel
theorem jwfS1 : (List.range' 20 20).all (fun k => (jtb k).all (jwf k)) = true := jwg_up jwgS1
set_option maxRecDepth 100000 in
theorem jwgS2 : (List.range' 40 20).all (fun k => (jtb k).all (jwg k)) = true := by decide +kernel
theorem jwfS2 : (List.range' 40 20).all (fun k => (jtb k).all (jwf k)) = true := jwg_up jwgS2
set_option maxRecDepth 100000 in
theorem jwgS3 : (List.range' 60 20).all (fun k => (jtb k).all (jwg k)) = true := by decide +kernel
theorem jwfS3 : (List.range' 60 20).all (fun k => (jtb k).all (jwf k)) = true := jwg_up jwgS3
set_option maxRecDepth 100000 in
theorem jwgS4 : (List.range' 80 20).all (fun k => (jtb k).all (jwg k)) = true := by decide +kernel
theorem jwfS4 : (List.range' 80 20).all (fun k => (jtb k).all (jwf k)) = true := jwg_up jwgS4
set_option maxRecDepth 100000 in
theorem jwgS5 : (List.range' 100 20).all (fun k => (jtb k).all (jwg k)) = true := by decide +kernel
theorem jwfS5 : (List.range' 100 20).all (fun k => (jtb k).all (jwf k)) = true := jwg_up jwgS5
set_option maxRecDepth 100000 in
theorem jwgS6 : (List.range' 120 20).all (fun k => (jtb k).all (jwg k)) = true := by decide +kernel
theorem jwfS6 : (List.range' 120 20).all (fun k => (jtb k).all (jwf k)) = true := jwg_up jwgS6
set_option maxRecDepth 100000 in
theorem jwgS7 : (List.range' 140 20).all (fun k => (jtb k).all (jwg k)) = true := by decide +kernel
theorem jwfS7 : (List.range' 140 20).all (fun k => (jtb k).all (jwf k)) = true := jwg_up jwgS7
set_option maxRecDepth 100000 in
theorem jwgS8 : (List.range' 160 20).all (fun k => (jtb k).all (jwg k)) = true := by decide +kernel
theorem jwfS8 : (List.range' 160 20).all (fun k => (jtb k).all (jwf k)) = true := jwg_up jwgS8
set_option maxRecDepth 100000 in
theorem jwgS9 : (List.range' 180 20).all (fun k => (jtb k).all (jwg k)) = true := by decide +kernel
theorem jwfS9 : (List.range' 180 20).all (fun k => (jtb k).all (jwf k)) = true := jwg_up jwgS9
set_option maxRecDepth 100000 in
theorem jwgS10 : (List.range' 200 20).all (fun k => (jtb k).all (jwg k)) = true := by decide +kernel
theorem jwfS10 : (List.range' 200 20).all (fun k => (jtb k).all (jwf k)) = true := jwg_up jwgS10
set_option maxRecDepth 100000 in
theorem jwgS11 : (List.range' 220 1).all (fun k => (jtb k).all (jwg k)) = true := by decide +kernel
theorem jwfS11 : (List.range' 220 1).all (fun k => (jtb k).all (jwf k)) = true := jwg_up jwgS11
