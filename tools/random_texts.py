import random,subprocess,sys,copy
sys.path.insert(0,__import__('os').path.dirname(__import__('os').path.abspath(__file__))); sys.setrecursionlimit(20000)
import ref
from ref import House,Parser,World,Judge,Fault
R=random.Random()
CLASSES=__import__('os').environ.get('CLASSES','/tmp/linkhouse')
PK=[['a'],['b','a'],['c'],['d','b'],['e']]
CN={'a':['a.A','a.B','a.C','a.F','a.G','a.N'],'b':['b.P','b.Q','b.F','b.E'],'c':['c.M','c.X','c.Y','c.F'],'d':['d.R','d.F','d.S'],'e':['e.T','e.F']}
ALLC=[c for v in CN.values() for c in v]+['z.Any','z.Ill']
FN=['x','y','kk','s'];MN=['f','g','h','m']
def pick(l): return l[R.randrange(len(l))]
def ch(p): return R.random()<p
class Gen:
    def __init__(s,lib,known): s.lib=lib; s.known=known
    def anyC(s): return pick(s.known) if s.known and ch(.93) else pick(ALLC)
    def T(s): return 'int' if ch(.55) else s.anyC()
    def A(s): return pick(['open ','open ','','kin ','own ','open '])
    def args(s,d): return ', '.join(s.E(d+1) for _ in range(R.choice([0,0,1,1,2])))
    def E(s,d=0):
        if d>3 or ch(.3): return pick(['1','0','3','x','y','kk','s','v','w','p','q','this','null','i','7'])
        r=R.randrange(17)
        if r==0: return s.E(d+1)+pick([' + ',' - ',' * ',' < ',' == '])+s.E(d+1)
        if r==1: return '('+s.E(d+1)+')'
        if r==2: return s.anyC()+'.'+pick(FN)
        if r==3: return s.anyC()+'.'+pick(MN)+'('+s.args(d)+')'
        if r in(4,5): return pick(MN)+'('+s.args(d)+')'
        if r in(6,7): return 'new '+s.anyC()+'('+s.args(d)+')'
        if r==8: return s.E(d+1)+'.'+pick(MN)+'('+s.args(d)+')'
        if r==9: return pick(['v','w','p','q','this','x'])+'.'+pick(MN)+'('+s.args(d)+')'
        if r==10: return pick(['v','w','p','q','this','x'])+'.'+pick(FN)
        if r==11: return '('+s.anyC()+') '+s.E(d+1)
        if r==12: return pick(['v','w','p','q','this','null','x'])+' ask '+s.anyC()
        if r==13: return 'super.'+pick(MN)+'('+s.args(d)+')'
        if r==14: return s.anyC()+'.super.'+pick(MN)+'('+s.args(d)+')'
        if r==15: return pick(['1','x','kk','s','y','i'])+pick([' + ',' * ',' - '])+pick(['1','x','kk','s','i','2'])
        return 'new '+s.anyC()+'()'
    def S(s,d=0):
        r=R.randrange(14)
        if d>3: r=R.randrange(6)
        if r==0: return 'let '+s.T()+' '+pick(['v','w','i','q2'])+' = '+s.E()+';'
        if r==1: return 'out '+s.E()+';'
        if r==2: return pick(['return ;','return '+s.E()+';'])
        if r==3: return 'throw '+pick(['new z.Ill()','new '+s.anyC()+'()','v',s.E()])+';'
        if r==4: return s.E()+';'
        if r==5: return pick(['x','y','s','kk','v','i','p','this.x','v.x','p.y',s.anyC()+'.s',s.anyC()+'.x'])+' = '+s.E()+';'
        if r==6: return 'if ('+s.E()+') '+s.S(d+1)+(' else '+s.S(d+1) if ch(.4) else '')
        if r==7: return 'while ('+pick(['i < 3','x < 4','0',s.E()])+') { '+s.S(d+1)+pick([' i = i + 1;',' x = x + 1;',' return ;',' throw new z.Ill();',''])+' }'
        if r==8: return '{ '+' '.join(s.S(d+1) for _ in range(R.randrange(3)))+' }'
        if r in(9,10): return 'try { '+' '.join(s.S(d+1) for _ in range(1+R.randrange(2)))+' } catch ('+pick(['z.Ill','z.Ill',s.anyC()])+' '+pick(['u','t'])+') { '+(s.S(d+1) if ch(.7) else '')+' }'
        if r==11: return 'let int i = '+pick(['0','1',s.E()])+'; '+s.S(d+1)
        if r==12: return 'let '+s.anyC()+' v = new '+s.anyC()+'('+s.args(0)+'); '+s.S(d+1)
        return 'out '+s.E()+';'
    def B(s,n=None): return '{ '+' '.join(s.S() for _ in range(R.choice([0,1,1,2,2,3]) if n is None else n))+' }'
    def params(s): return ', '.join(s.T()+' '+n for n in ['p','q','r','t','o'][:R.choice([0,0,0,1,1,2])])
    def member(s,face):
        r=R.randrange(12)
        if face:
            if r<2: return pick(['','open ','static ','final '])+'int '+pick(FN)+' = '+s.E()+';'
            if r<3: return s.T()+' '+pick(FN)+' = '+s.E()+';'
            if r<6: return pick(['','','open ','bare '])+pick(['int','void',s.anyC(),s.anyC()])+' '+pick(MN)+'('+s.params()+');'
            if r<9: return pick(['','','open ','own '])+s.meth(face)
            return pick(['','own ','open '])+'static '+s.meth(face)
        if r<3: return s.A()+pick(['','static ','static final ','final ','static final '])+pick(['int','int','int',s.anyC()])+' '+pick(FN)+pick([';',' = '+s.E()+';',' = '+pick(['1','2','3 * 4','kk + 1'])+';'])
        if r<7: return s.A()+pick(['','','','final ','static ','static '])+s.meth(face)
        if r<8: return s.A()+'bare '+pick(['int','void',s.anyC()])+' '+pick(MN)+'('+s.params()+');'
        if r<10: return s.A()+'new('+s.params()+') '+(s.B() if ch(.4) else '{ super('+s.args(0)+'); '+s.B()[1:])
        if r<11: return 'start '+s.B()
        return s.A()+s.meth(face)
    def meth(s,face):
        t=pick(['void','void','int','int',s.anyC(),s.anyC()])
        b=s.B()
        if t!='void' and ch(.85): b=b[:-1]+'return '+(pick(['this','null','p','q','v','new '+t+'()',s.E()]) if t!='int' else pick([s.E(),'x','kk','1','p']))+'; }'
        return t+' '+pick(MN)+'('+s.params()+') '+b
    def head(s,name,old=None):
        face=name[2] in 'FG'
        if ch(.04): face=not face
        h=pick(['open ','open ','open ',''])+(pick(['','','','','bare ','bare ','final ']) if not face else '')+('face ' if face else 'class ')+name
        if not face and ch(.5): h+=' is '+s.anyC()
        if ch(.4):
            fs=[f for f in s.known if f[2] in 'FG' and f!=name] or s.known
            h+=' as '+', '.join(pick(fs) for _ in range(R.choice([1,1,2])))
        return h
def render(cs): return ' '.join(h+' { '+' '.join(ms)+' }' for h,ms in cs)
def trial(house,lib,text,world=True):
    try:
        cs=Parser(text).text()
        w=World([cs]+[house.b[i][house.pk[i]].cs if house.pk[i]>=0 and i!=lib else [] for i in range(5)])
        for c in cs: c.members=[m for m in c.items if m.kind!='start']; c.uses=[]
        Judge(cs,w).run()
        return None
    except Fault as f: return f.n,f.p
def toks(t): return [x[1] for x in ref.lex(t) if x[0]!='END']
def mutate_tokens(t):
    ts=toks(t)
    if not ts: return t
    for _ in range(R.choice([1,1,1,2])):
        i=R.randrange(len(ts)); r=R.randrange(4)
        if r==0: ts.pop(i)
        elif r==1: ts.insert(i,pick(ts))
        elif r==2: ts[i]=pick(ts)
        else: ts.insert(i,pick(['{','}','(',')',';','=','==','.','super','new','open','own','static','final','bare','kin','12','abcdefghijk','int','x','1234567890','$','a.Abcdefghij','void','this','a.A','null','ask','with','in','only','as']))
        if not ts: break
    return ' '.join(ts)
class Scn:
    def __init__(s): s.h=House(); s.cmds=['NEW']; s.exp=['NEW']; s.src={}
    def do(s,name,*a):
        r=getattr(s.h,name)(*a); s.cmds.append(' '.join([name]+[str(x) for x in a])); s.exp.append(s.cmds[-1]+' = '+str(r)); return r
    def tape(s,t):
        s.h.tape=t; s.cmds.append('TAPE '+t.replace('\n','\\n')); s.exp.append('tape %d'%len(t))
    def OUT(s): s.cmds.append('OUT'); s.exp.append('OUT '+s.h.out)
    def mk(s,lib,t):
        s.tape(t); r=s.do('make',lib); s.do('place')
        if r>=0: s.inspect(lib,r)
        return r
    def inspect(s,lib,b):
        for k in range(s.do('classes',lib,b)):
            n=s.do('members',lib,b,k)
            for m in [-2]+list(range(n)): s.do('shape',lib,b,k,m); s.OUT()
        for u in range(s.do('uses',lib,b)):
            s.do('use',lib,b,u,0); s.do('use',lib,b,u,1); s.do('tell',lib,b,u); s.OUT()
    def grow(s,lib,cs,n,known):
        g=Gen(lib,known)
        for _ in range(n):
            c2=copy.deepcopy(cs); i=R.randrange(len(c2)) if c2 else 0
            r=R.random()
            if r<.72:
                h,ms=c2[i]; m=g.member(' face ' in ' '+h)
                if ms and ch(.2): ms[R.randrange(len(ms))]=m
                else: ms.insert(R.randrange(len(ms)+1),m)
            elif r<.84: 
                h,ms=c2[i]; name=[x for x in h.split() if len(x)>2 and x[1]=='.'][0].strip(','); c2[i]=(g.head(name),ms)
            elif r<.90:
                h,ms=c2[i]
                if ms: ms.pop(R.randrange(len(ms)))
            elif r<.93:
                # modifiers of a member
                h,ms=c2[i]
                if ms:
                    k=R.randrange(len(ms)); t=ms[k]
                    w=pick(['open','kin','own','static','final','bare'])
                    if t.startswith(w+' '): t=t[len(w)+1:]
                    else: t=w+' '+t
                    ms[k]=t
            else:
                h,ms=c2[i]
                r2=R.randrange(3)
                others=[x for hh,_ in c2 for x in hh.split() if len(x)>2 and x[1]=='.']
                nm=[x.strip(',') for x in h.split() if len(x)>2 and x[1]=='.'][0]
                if r2==0 and len(c2)>1:
                    j=R.randrange(len(c2)); 
                    if j!=i and ' in ' not in c2[j][0] and ' with ' not in h:
                        hj,mj=c2[j]; nj=[x.strip(',') for x in hj.split() if len(x)>2 and x[1]=='.'][0]
                        def ins(h,w,n):
                            if w=='in': 
                                for b in (' with ',' only '):
                                    if b in h: return h.replace(b,' in '+n+b,1)
                                return h+' in '+n
                            if ' only ' in h: return h.replace(' only ',' with '+n+' only ',1)
                            return h+' with '+n
                        c2[j]=(ins(hj,'in',nm),mj); c2[i]=(ins(h,'with',nj),ms)
                elif r2==1: c2[i]=(h+(', ' if ' only ' in h else ' only ')+pick(others).strip(','),ms)
            t=render(c2)
            if len(t)>3600 or len(toks(t))>690: continue
            f=trial(s.h,lib,t)
            if f is None: cs=c2
            elif ch(.12): s.mk(lib,t)
        return cs
    def version(s,lib,known,n):
        old=s.src.get(lib)
        if old is None:
            names=[]
            for p in PK[lib]: names+=CN[p]
            R.shuffle(names); names=names[:R.choice([2,3,4,5])]
            if ch(.08): names.append(pick(ALLC[:-2]))
            g=Gen(lib,known+names); cs=[]
            for n_ in names:
                for _ in range(6):
                    c=cs+[(g.head(n_),[])]
                    if trial(s.h,lib,render(c)) is None: cs=c; break
        else: cs=copy.deepcopy(old)
        kn=known+[x for h,_ in cs for x in h.split() if len(x)>2 and x[1]=='.']+['z.Ill','z.Any']
        kn=[k.strip(',') for k in kn]
        if cs: cs=s.grow(lib,cs,n,kn)
        s.src[lib]=cs
        t=render(cs)
        if ch(.2): s.mk(lib,mutate_tokens(t))
        r=s.mk(lib,t)
        return r
    def known(s): return [c.name for c in s.h.w.list]
    def runs(s):
        for c in list(s.h.w.list):
            for m in c.members:
                if m.kind=='method' and m.static and not m.params and ch(.8):
                    s.tape(c.name+'.'+m.name); s.do('run'); s.do('value')
                    for i in range(6): s.do('told',i)
                    for i in range(min(6,len(s.h.outs))): s.do('number',i)
        for i in range(min(60,s.h.told(4))+1): s.do('event',i)
        for k in range(len(s.h.w.list)): s.do('state',k); s.do('name',k); s.OUT()
        for o in range(1,min(12,s.h.told(2))+2):
            s.do('classOf',o)
            for k in range(4): s.do('fieldOf',o,k)
    def check(s):
        s.do('broken')
        for i in range(min(len(s.h.lost),10)+1):
            for w in range(3): s.do('brokenAt',i,w)
        s.do('stale')
        for lib in range(5):
            b=s.h.pk[lib]
            if b<0: continue
            for u in range(s.h.uses(lib,b)):
                if ch(.6):
                    s.do('meet',lib,b,u); s.do('met'); s.OUT()
                    for i in range(len(s.h.look)+1): s.do('looked',i)
        for lib in range(5):
            b=s.h.pk[lib]
            if b<0: continue
            for u in range(s.h.uses(lib,b)):
                if ch(.15): s.do('touch',lib,b,u)
        for i in range(min(60,s.h.told(4))+1): s.do('event',i)
        if ch(.5): s.do('fresh')
def scenario(seed):
    R.seed(seed); s=Scn()
    libs=R.choice([[0,1,2],[0,1],[0,2],[1,0,2,3],[0,1,2,3,4],[2,0]])
    for l in libs:
        if s.version(l,s.known(),R.choice([20,40,70,100]))>=0: s.do('pick',l,len(s.h.b[l])-1)
    s.runs(); s.check(); s.runs()
    for _ in range(R.choice([2,3,5])):
        l=pick(libs)
        if not s.h.b[l]: continue
        if ch(.3): 
            l2=pick(libs); s.do('pick',l2,pick([-2]+list(range(len(s.h.b[l2])))))
        s.version(l,s.known(),R.choice([6,15,40,80]))
        n=len(s.h.b[l])
        a,b=R.randrange(n),R.randrange(n)
        if ch(.7): a,b=max(0,n-2),n-1
        s.do('differ',l,a,b)
        for i in range(len(s.h.diff)+1):
            for w in range(5): s.do('change',i,w)
        s.do('word',l,a,b); s.do('word',l,b,a)
        r=s.do('weave',l,a,b) if ch(.5) else s.do('weave',l,b,a)
        if r>=0: s.inspect(l,r)
        for l in libs:
            if len(s.h.b[l]) and ch(.6): s.do('pick',l,R.randrange(len(s.h.b[l])) if ch(.4) else len(s.h.b[l])-1)
        if ch(.6): s.runs()
        s.check()
        if ch(.7): s.runs()
        if ch(.3):
            s.do('choose')
            for l in range(5): s.do('picked',l)
    return s
if __name__=='__main__':
    a,b=int(sys.argv[1]),int(sys.argv[2]); bad=0; stats={}
    for seed in range(a,b):
        try: s=scenario(seed)
        except RecursionError: print('recursion',seed); continue
        out=subprocess.run(['java','-cp',CLASSES,'Driver'],input='\n'.join(s.cmds)+'\n',capture_output=True,text=True,encoding='latin-1').stdout.split('\n')
        for c,e in zip(s.cmds,s.exp):
            k=c.split()[0]
            if k in('make','run','meet','touch','weave','differ','choose','broken','stale','word'): 
                kk=(k,e.split(' = ')[1]) if k in('make','run','meet','touch','weave','choose','word') else (k,'0' if e.endswith(' 0') else '+')
                if k=='make' and int(kk[1])>=0: kk=(k,'ok')
                stats[kk]=stats.get(kk,0)+1
        for i,e in enumerate(s.exp):
            if i>=len(out) or out[i]!=e:
                bad+=1
                print('SEED',seed,'line',i,'want',e,'got',out[i] if i<len(out) else None)
                for j in range(i,-1,-1):
                    if s.cmds[j].startswith('TAPE'): print('   ',s.cmds[j][:3000]); break
                print('    THREW' if any('THREW' in o for o in out) else '')
                break
    print('bad',bad)
    for k in sorted(stats): print(k,stats[k])
